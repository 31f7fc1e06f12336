/** Promises 31 to 34: counts, undo, and what is saved and restored. */
public final class ChangesTest {
    private static final Check CHECK = new Check();
    private static final Class<IllegalArgumentException> ARGUMENT = IllegalArgumentException.class;
    private static final Class<IllegalStateException> STATE = IllegalStateException.class;

    public static void main(String[] args) {
        count();
        changes();
        noChanges();
        undo();
        undoForgets();
        whatUndoLeaves();
        saveAndRestore();
        restoreOfNothing();
        whatIsSavedStays();
        CHECK.end();
    }

    /** All counts but that of the changes, with the texts of both lines. */
    private static String stateOf(CounterpointChecker x) {
        StringBuilder all = new StringBuilder();
        for (int what = 0; what <= 7; what++) {
            all.append(x.count(what)).append(' ');
        }
        for (int rule = 1; rule <= 16; rule++) {
            all.append(x.weight(rule));
        }
        all.append(x.count(0) == 0 ? "" : " " + Check.textOf(x, true));
        all.append(x.count(1) == 0 ? "" : " " + Check.textOf(x, false));
        return all.toString();
    }

    private static void count() {
        CounterpointChecker x = Check.withLines(3, "d4,c4,c4", "-,f4,a4,b4,c5,b4,a4,b4,c5");
        x.setPosition(true);
        x.set(0, 30);
        x.set(1, 80);
        x.set(2, 20);
        x.setWeight(3, 9);
        x.append('c');
        int[] want = {3, 9, 3, 1, 30, 80, 20, 24, 1, 6, 0};
        for (int what = 0; what < want.length; what++) {
            int asked = what;
            CHECK.due("count(" + what + ")", want[what], () -> x.count(asked));
        }
        CHECK.refused("count(-1)", ARGUMENT, () -> x.count(-1));
        CHECK.refused("count(11)", ARGUMENT, () -> x.count(11));
    }

    /** Every change counts, also one by which nothing is different. */
    private static void changes() {
        CounterpointChecker x = new CounterpointChecker();
        x.save();
        CHECK.due("cantus", 1, () -> Check.type(x, "d4,c4").cantus() * 0 + x.count(9));
        x.setSpecies(1);
        CHECK.due("setSpecies", 2, () -> x.count(9));
        x.setPosition(false);
        CHECK.due("setPosition", 3, () -> x.count(9));
        x.set(0, 36);
        CHECK.due("set", 4, () -> x.count(9));
        x.setWeight(1, 1);
        CHECK.due("setWeight", 5, () -> x.count(9));
        Check.type(x, "leap=1").weights();
        CHECK.due("weights", 6, () -> x.count(9));
        for (int i = 5; i >= 0; i--) {
            int left = i;
            CHECK.due("undo", left, x::undo);
        }
        Check.type(x, "d4,c4").cantus();
        Check.type(x, "b4,c5").counterpoint();
        CHECK.due("counterpoint", 2, () -> x.count(9));
        x.setNote(0, 0, 103);
        CHECK.due("setNote", 3, () -> x.count(9));
        x.setWeight(14, 0);
        x.search();
        CHECK.due("search is none", 4, () -> x.count(9));
        x.adopt();
        CHECK.due("adopt", 5, () -> x.count(9));
        x.restore();
        CHECK.due("restore", 6, () -> x.count(9));
    }

    private static void noChanges() {
        CounterpointChecker x = Check.withLines(1, "d4,c4", "b4,c5");
        int before = x.count(9);
        CHECK.refused("cantus", ARGUMENT, () -> Check.type(x, "x").cantus());
        CHECK.refused("counterpoint", ARGUMENT, () -> Check.type(x, "x").counterpoint());
        CHECK.refused("weights", ARGUMENT, () -> Check.type(x, "x").weights());
        CHECK.refused("setSpecies", ARGUMENT, () -> x.setSpecies(9));
        CHECK.refused("set", ARGUMENT, () -> x.set(0, 99));
        CHECK.refused("setWeight", ARGUMENT, () -> x.setWeight(1, 99));
        CHECK.refused("setNote", ARGUMENT, () -> x.setNote(0, 0, 0));
        CHECK.refused("adopt", STATE, x::adopt);
        CHECK.refused("restore", STATE, x::restore);
        x.costWith(0, 0, 85);
        x.better(0, 0);
        x.save();
        CHECK.due("no change by all these", before, () -> x.count(9));
        CHECK.dueText("the line", "b4,c5", Check.textOf(x, false));
    }

    private static void undo() {
        CounterpointChecker x = new CounterpointChecker();
        CHECK.refused("undo of nothing", STATE, x::undo);
        String[] states = new String[7];
        states[0] = stateOf(x);
        Check.type(x, "d4,c4").cantus();
        states[1] = stateOf(x);
        x.setSpecies(2);
        states[2] = stateOf(x);
        Check.type(x, "-,b4,c5").counterpoint();
        states[3] = stateOf(x);
        x.setNote(0, 1, 88);
        states[4] = stateOf(x);
        x.set(2, 30);
        states[5] = stateOf(x);
        x.setPosition(true);
        states[6] = stateOf(x);
        for (int i = 5; i >= 0; i--) {
            int left = i;
            CHECK.due("undo to " + i, left, x::undo);
            CHECK.dueText("the state " + i, states[i], stateOf(x));
        }
        CHECK.refused("undo of no more", STATE, x::undo);

        CounterpointChecker y = Check.withLines(1, "d4,c4", "b4,c5");
        String before = stateOf(y);
        Check.type(y, "leap=3,weak=4").weights();
        y.undo();
        CHECK.dueText("undo of weights", before, stateOf(y));
        y.setWeight(16, 7);
        y.undo();
        CHECK.dueText("undo of setWeight", before, stateOf(y));
        y.setSpecies(2);
        y.undo();
        CHECK.dueText("undo of setSpecies", before, stateOf(y));
        Check.type(y, "c4,c4,c4").cantus();
        y.undo();
        CHECK.dueText("undo of cantus", before, stateOf(y));
        y.setWeight(14, 0);
        String light = stateOf(y);
        y.search();
        y.setNote(0, 0, 42);
        y.adopt();
        y.undo();
        y.undo();
        CHECK.dueText("undo of adopt and setNote", light, stateOf(y));
    }

    private static void undoForgets() {
        CounterpointChecker x = new CounterpointChecker();
        for (int weight = 2; weight <= 9; weight++) {
            x.setWeight(1, weight);
        }
        CHECK.due("eight changes", 6, () -> x.count(9));
        for (int i = 5; i >= 3; i--) {
            int left = i;
            CHECK.due("undo", left, x::undo);
        }
        CHECK.due("the weight of then", 6, () -> x.weight(1));
        x.setWeight(1, 0);
        CHECK.due("a change after undo", 4, () -> x.count(9));
        CHECK.due("its undo", 3, x::undo);
        CHECK.due("the weight of then", 6, () -> x.weight(1));
        x.undo();
        x.undo();
        CHECK.due("the last undo", 0, x::undo);
        CHECK.due("what was forgotten stays", 3, () -> x.weight(1));
        CHECK.refused("one more", STATE, x::undo);
    }

    private static void whatUndoLeaves() {
        CounterpointChecker x = Check.withCantus("d4,c4");
        x.setWeight(14, 0);
        x.search();
        CHECK.refused("a wrong text", ARGUMENT, () -> Check.type(x, "d4,x").cantus());
        Check.type(x, "leap");
        x.undo();
        CHECK.due("the buffer after undo", 4, () -> x.count(8));
        CHECK.due("errorPosition after undo", 3, x::errorPosition);
        CHECK.due("the suggestion after undo", 2, () -> x.count(10));
        x.save();
        x.restore();
        CHECK.due("the buffer after restore", 4, () -> x.count(8));
        CHECK.due("errorPosition after restore", 3, x::errorPosition);
        CHECK.due("the suggestion after restore", 2, () -> x.count(10));
    }

    private static void saveAndRestore() {
        CounterpointChecker x = Check.withLines(4, "d4,c4,d4", "-,b4,b4,a4,d5");
        x.setPosition(true);
        x.set(0, 40);
        x.set(1, 70);
        x.set(2, 13);
        Check.type(x, "leap=3,weak=4").weights();
        String before = stateOf(x);
        CHECK.due("save", 3, x::save);
        Check.type(x, "c4,c4").cantus();
        x.setSpecies(1);
        x.setPosition(false);
        x.set(0, 24);
        x.set(1, 84);
        x.set(2, 36);
        Check.type(x, "leap=9,range=9").weights();
        String later = stateOf(x);
        CHECK.due("restore", 3, x::restore);
        CHECK.dueText("the state", before, stateOf(x));
        CHECK.due("undo of restore", 5, x::undo);
        CHECK.dueText("the state then", later, stateOf(x));
        CHECK.due("restore again", 3, x::restore);
        CHECK.dueText("the state again", before, stateOf(x));
    }

    private static void restoreOfNothing() {
        CounterpointChecker x = new CounterpointChecker();
        CHECK.refused("restore of nothing", STATE, x::restore);
        String empty = stateOf(x);
        CHECK.due("save without a cantus", 0, x::save);
        Check.type(x, "d4,c4").cantus();
        CHECK.due("restore of no cantus", 0, x::restore);
        CHECK.dueText("the state", empty, stateOf(x));
        CHECK.refused("no cantus", STATE, () -> x.note(0, -1));
    }

    private static void whatIsSavedStays() {
        CounterpointChecker x = Check.withLines(1, "d4,c4", "b4,c5");
        x.save();
        x.setNote(0, 0, 42);
        x.restore();
        CHECK.dueText("the line", "b4,c5", Check.textOf(x, false));
        x.setNote(1, 0, 42);
        x.setWeight(1, 5);
        x.restore();
        CHECK.dueText("the line again", "b4,c5", Check.textOf(x, false));
        CHECK.due("the weight again", 1, () -> x.weight(1));
        x.setWeight(1, 6);
        x.save();
        x.setWeight(1, 7);
        x.restore();
        CHECK.due("the weight that was saved later", 6, () -> x.weight(1));
    }
}
