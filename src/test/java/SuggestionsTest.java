/** Promises 26 to 30: better notes, and lines that are searched for, suggested and adopted. */
public final class SuggestionsTest {
    private static final Check CHECK = new Check();
    private static final Class<IllegalArgumentException> ARGUMENT = IllegalArgumentException.class;
    private static final Class<IllegalStateException> STATE = IllegalStateException.class;
    private static final Class<IndexOutOfBoundsException> INDEX = IndexOutOfBoundsException.class;
    private static final Class<java.util.NoSuchElementException> ELEMENT = java.util.NoSuchElementException.class;
    private static final Class<UnsupportedOperationException> UNSUPPORTED = UnsupportedOperationException.class;

    public static void main(String[] args) {
        better();
        betterOfAll();
        betterInRange();
        betterErrors();
        costWith();
        search();
        searchOfNothing();
        searchLimit();
        searchErrors();
        suggested();
        adopt();
        CHECK.end();
    }

    private static void better() {
        CounterpointChecker x = Check.withLines(1, "d4,c4", "b4,b4");
        CHECK.due("the better cadence", 106, () -> x.better(1, 0));
        CHECK.dueText("the line stays", "b4,b4", Check.textOf(x, false));
        CHECK.due("the cost stays", 5, x::cost);
        CHECK.due("the changes stay", 3, () -> x.count(9));
        x.setNote(1, 0, 106);
        CHECK.due("the note itself", 106, () -> x.better(1, 0));
        for (int rule = 1; rule <= 16; rule++) {
            x.setWeight(rule, 0);
        }
        CHECK.due("the least code of the pitch 36", 3 * 20 + 2, () -> x.better(1, 0));
    }

    /** In lines of all species, the least cost and with it the least code, as costWith tells them. */
    private static void betterOfAll() {
        String[] lines = {"c5,b4,c5,d5,c5", "-,g4,a4,b4,g4,f4,e4,c5,c5",
            "c5,d5,e5,f5,g5,f5,e5,d5,c5,b4,a4,g4,a4,f4,g4,b4,c5", "-,c5,c5,b4,b4,a4,a4,b4,c5"};
        for (int species = 1; species <= 4; species++) {
            int beats = new int[] {0, 1, 2, 4, 2}[species];
            for (int i = species % 2 == 0 ? 1 : 0; i <= 4 * beats; i++) {
                CounterpointChecker x = Check.withLines(species, "c4,d4,e4,d4,c4", lines[species - 1]);
                Check.type(x, "range=3,leap=2,climax=4,weak=5,cadence=9").weights();
                int bar = i / beats;
                int beat = i % beats;
                int best = 0;
                for (int code = 146; code >= 42; code--) {
                    int pitch = x.noteOf(code, 2);
                    boolean isIn = pitch >= 36 && pitch <= 72;
                    if (isIn && (best == 0 || x.costWith(bar, beat, code) <= x.costWith(bar, beat, best))) {
                        best = code;
                    }
                }
                int due = best;
                CHECK.due("better(" + bar + ", " + beat + ") in species " + species, due, () -> x.better(bar, beat));
            }
        }
    }

    /** A note out of the range is no candidate, though with it the cost is least here. */
    private static void betterInRange() {
        CounterpointChecker x = Check.withLines(1, "d4,c4", "b4,c5");
        x.setWeight(1, 0);
        x.set(0, 60);
        CHECK.due("the lowest pitch is allowed", 106, () -> x.better(1, 0));
        x.set(0, 61);
        CHECK.due("the pitch below it is not", 0, () -> x.better(1, 0) == 106 ? 1 : 0);
        x.set(0, 36);
        x.set(1, 60);
        CHECK.due("the highest pitch is allowed", 106, () -> x.better(1, 0));
        x.set(1, 59);
        CHECK.due("the pitch above it is not", 0, () -> x.better(1, 0) == 106 ? 1 : 0);
        x.set(1, 84);
        x.set(0, 84);
        CHECK.due("the greatest code", 146, () -> x.better(1, 0));
        x.set(0, 24);
        x.set(1, 24);
        CHECK.due("the least code of the least pitch", 43, () -> x.better(1, 0));
    }

    private static void betterErrors() {
        CounterpointChecker none = Check.withCantus("d4,c4");
        CHECK.refused("better without a counterpoint", STATE, () -> none.better(9, 9));
        CounterpointChecker x = Check.withLines(2, "d4,c4", "-,b4,c5");
        CHECK.refused("better in bar -1", INDEX, () -> x.better(-1, 0));
        CHECK.refused("better in bar 2", INDEX, () -> x.better(2, 0));
        CHECK.refused("better on beat 2", INDEX, () -> x.better(0, 2));
        CHECK.refused("better on beat -1", INDEX, () -> x.better(0, -1));
        CHECK.refused("better on beat 1 of the last bar", INDEX, () -> x.better(1, 1));
        CHECK.refused("better of a rest", ELEMENT, () -> x.better(0, 0));
    }

    private static void costWith() {
        CounterpointChecker none = Check.withCantus("d4,c4");
        CHECK.refused("costWith without a counterpoint", STATE, () -> none.costWith(9, 9, 9));
        CounterpointChecker x = Check.withLines(2, "d4,c4", "-,b4,c5");
        CHECK.refused("costWith in bar 2", INDEX, () -> x.costWith(2, 0, 9));
        CHECK.refused("costWith on beat 2", INDEX, () -> x.costWith(0, 2, 9));
        CHECK.refused("costWith of 41 for a rest", ARGUMENT, () -> x.costWith(0, 0, 41));
        CHECK.refused("costWith of 147", ARGUMENT, () -> x.costWith(0, 1, 147));
        CHECK.refused("costWith for a rest", ELEMENT, () -> x.costWith(0, 0, 85));
        for (int code = 42; code <= 146; code++) {
            CounterpointChecker z = Check.withLines(2, "d4,c4", "-,b4,c5");
            int cost = z.costWith(0, 1, code);
            CHECK.dueText("the line stays", "-,b4,c5", Check.textOf(z, false));
            z.setNote(0, 1, code);
            CHECK.due("the cost with " + code, cost, z::cost);
        }
        CounterpointChecker y = Check.withLines(1, "d4,c4", "b4,b4");
        CHECK.due("the cost with c5", 1, () -> y.costWith(1, 0, 106));
        CHECK.due("the cost with b4", 5, () -> y.costWith(1, 0, 103));
    }

    /** In the first bar b4 is the fourteenth to be tried, d4, f4, f#4 and a4 fit before it, each with eight behind. */
    private static void search() {
        CounterpointChecker x = Check.withCantus("d4,c4");
        x.set(0, 48);
        x.set(1, 60);
        x.setWeight(14, 0);
        CHECK.due("the trials", 54, x::search);
        CHECK.due("the first note", 103, () -> x.suggested(0));
        CHECK.due("the last note", 106, () -> x.suggested(1));
        CHECK.due("there is no counterpoint yet", 0, () -> x.count(1));
        CHECK.due("adopt", 0, x::adopt);
        CHECK.due("the trials again", 54, x::search);
        x.set(0, 59);
        CHECK.due("b first, then b and c in the last bar", 3, x::search);
    }

    private static void searchOfNothing() {
        CounterpointChecker x = Check.withCantus("d4,c4");
        x.setWeight(14, 0);
        x.search();
        x.setWeight(14, 1);
        x.set(0, 48);
        x.set(1, 60);
        CHECK.refused("search in vain", UNSUPPORTED, x::search);
        CHECK.due("the earlier suggestion stays", 2, () -> x.count(10));
        x.set(0, 49);
        x.set(1, 49);
        CHECK.refused("search without a candidate in the last bar", UNSUPPORTED, x::search);
        for (int rule = 1; rule <= 16; rule++) {
            x.setWeight(rule, 0);
        }
        CHECK.refused("no candidate in the last bar, without rules", UNSUPPORTED, x::search);
        x.set(1, 50);
        CHECK.due("c sharp and d", 2, x::search);
        CHECK.due("c sharp", 86, () -> x.suggested(0));
        CHECK.due("d", 88, () -> x.suggested(1));
        Check.type(x, "c4,c4,c4").cantus();
        CHECK.due("sharps in the bar before the last alone", 3, x::search);
        CHECK.due("d first", 88, () -> x.suggested(0));
        CHECK.due("then c sharp", 86, () -> x.suggested(1));
        Check.type(x, "c4,c4").cantus();
        x.setWeight(4, 1);
        x.set(1, 84);
        x.set(0, 83);
        CHECK.due("b and b in vain, then b sharp and b", 4, x::search);
        CHECK.due("the greatest code of all", 146, () -> x.suggested(0));
    }

    /** Lines whose searches end with a line at the very last trial, and at the one that is not made any more. */
    private static void searchLimit() {
        CounterpointChecker x = Check.withCantus("a3,b3,c4,d4,e4,a3,b3,a3");
        x.set(0, 30);
        x.set(1, 76);
        CHECK.refused("the trial 3001 is not made", UNSUPPORTED, x::search);
        CHECK.due("no suggestion", 0, () -> x.count(10));
        x.set(0, 34);
        x.set(1, 80);
        CHECK.due("the last trial counts", 3000, x::search);
        CHECK.due("its line", 8, () -> x.count(10));
        CHECK.due("it has no faults", 0, x::adopt);
    }

    private static void searchErrors() {
        CounterpointChecker x = new CounterpointChecker();
        CHECK.refused("search without a cantus", STATE, x::search);
        Check.type(x, "d4,c4").cantus();
        for (int species = 2; species <= 4; species++) {
            x.setSpecies(species);
            CHECK.refused("search in species " + species, STATE, x::search);
        }
    }

    private static void suggested() {
        CounterpointChecker x = Check.withCantus("d4,c4");
        CHECK.refused("suggested without a suggestion", STATE, () -> x.suggested(9));
        x.setWeight(14, 0);
        x.search();
        CHECK.refused("suggested(2)", INDEX, () -> x.suggested(2));
        CHECK.refused("suggested(-1)", INDEX, () -> x.suggested(-1));
        Check.type(x, "d4,d4,d4,c4").cantus();
        CHECK.due("the suggestion stays with another cantus", 2, () -> x.count(10));
        x.search();
        CHECK.due("it is replaced", 4, () -> x.count(10));
    }

    private static void adopt() {
        CounterpointChecker x = new CounterpointChecker();
        CHECK.refused("adopt without anything", STATE, x::adopt);
        x.save();
        Check.type(x, "d4,c4").cantus();
        CHECK.refused("adopt without a suggestion", STATE, x::adopt);
        x.setWeight(14, 0);
        x.search();
        x.setWeight(14, 1);
        CHECK.due("adopt with the fault of rule 14", 1, x::adopt);
        CHECK.due("the notes", 2, () -> x.count(1));
        CHECK.due("the first note", x.suggested(0), () -> x.note(0, 0));
        CHECK.due("the last note", x.suggested(1), () -> x.note(1, 0));
        x.setSpecies(2);
        CHECK.refused("adopt in species 2", UNSUPPORTED, x::adopt);
        x.setSpecies(1);
        Check.type(x, "d4,d4,c4").cantus();
        CHECK.refused("adopt for three notes", UNSUPPORTED, x::adopt);
        x.restore();
        CHECK.refused("adopt without a cantus", STATE, x::adopt);
        CHECK.due("the suggestion is still there", 2, () -> x.count(10));
    }
}
