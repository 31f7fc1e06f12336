import java.util.ArrayList;
import java.util.List;

/** Calls that are refused: they leave the state as it is, and of several exceptions the first one is thrown. */
public final class RefusalsTest {
    private static final Check CHECK = new Check();
    private static final Script SAY = new Script(CHECK);

    private static final String[] EMPTY = {};
    private static final String[] CANTUS = {"cantus d4,c4,d4", "setSpecies 3", "weights leap=x", "type leap=7"};
    private static final String[] RESTED = {"setWeight 14 0", "set 0 59", "cantus d4,c4", "search", "set 0 36", "save",
        "setSpecies 2", "setPosition true", "counterpoint -,b4,c5", "cantus x,y", "type leap=7"};
    private static final String[] SINGLE = {"setWeight 14 0", "cantus d4,c4", "counterpoint b4,b4", "set 0 59", "search",
        "cantus e4,d4,c4", "counterpoint c5,b4,c5", "save", "setWeight 3 9", "setNote 0 0 42", "type leap=7"};
    private static final String[][] SCENES = {EMPTY, CANTUS, RESTED, SINGLE};

    /** Lines that are refused in some scene at least. */
    private static final String[] LINES = {
        "append 32", "append 127", "append 0xff000000", "append 0x63342c20", "setSpecies 0", "setSpecies 5",
        "set -1 40", "set 3 40", "set 0 23", "set 0 85", "set 0 73", "set 1 23", "set 1 35", "set 1 85", "set 2 11",
        "set 2 37", "setNote -1 0 85", "setNote 3 0 85", "setNote 0 -1 85", "setNote 0 4 85", "setNote 0 0 41",
        "setNote 0 0 147", "setNote 0 0 85", "setNote 1 1 85", "note -1 -1", "note 12 -1", "note 0 0", "note 0 9",
        "note 0 -2", "noteOf 41 0", "noteOf 147 0", "noteOf 85 5", "noteOf 85 -1", "text true 99", "text true -2",
        "text false 99", "text false -1", "interval 0 0 0", "interval 0 1 5", "interval 9 0 0", "interval 0 0 5",
        "motion 0", "motion -1", "motion 2", "motion 12", "motions -1", "motions 5", "contraryBits", "meanBits",
        "setWeight 0 1", "setWeight 17 1", "setWeight 1 10", "setWeight 1 -1", "weight 0", "weight 17", "fault 99 0",
        "fault -1 0", "fault 0 4", "fault 0 -1", "explain 99 0", "explain -1 0", "explain 0 99", "explain 0 -2",
        "faults -1", "faults 17", "faultsIn -1", "faultsIn 12", "cost", "better 0 0", "better 9 0", "better 0 9",
        "costWith 0 0 85", "costWith 9 0 85", "costWith 0 9 85", "costWith 0 0 41", "search", "suggested 0",
        "suggested -1", "suggested 12", "adopt", "count -1", "count 11", "undo", "restore"};

    public static void main(String[] args) {
        unchanged();
        unchangedByTexts();
        unchangedByFullBuffer();
        unchangedBySearch();
        orderWithoutCantus();
        orderWithoutCounterpoint();
        orderBesideRest();
        orderOfTheOthers();
        CHECK.end();
    }

    private static CounterpointChecker made(String[] scene) {
        CounterpointChecker x = new CounterpointChecker();
        for (String line : scene) {
            Script.outcome(x, line);
        }
        return x;
    }

    private static boolean isRefused(String outcome) {
        return List.of("STATE", "ARGUMENT", "INDEX", "ELEMENT", "ARITHMETIC", "UNSUPPORTED").contains(outcome);
    }

    private static void tell(List<String> all, CounterpointChecker x, boolean withText) {
        for (int what = 0; what <= 10; what++) {
            all.add(what == 8 && !withText ? "" : "" + x.count(what));
        }
        all.add(withText ? "" + x.errorPosition() : "");
        for (int bar = 0; bar < 3; bar++) {
            all.add(Script.outcome(x, "suggested " + bar));
            for (int beat = -1; beat < 2; beat++) {
                all.add(Script.outcome(x, "note " + bar + " " + beat));
            }
        }
        all.add(Script.outcome(x, "cost"));
    }

    private static void tellAll(List<String> all, CounterpointChecker x, boolean withText) {
        tell(all, x, withText);
        for (int rule = 1; rule <= 16; rule++) {
            all.add("" + x.weight(rule));
        }
        all.add(Script.outcome(x, "found"));
    }

    /** All that an object can tell, which is lost by it: what was saved, what can be taken back, what is typed. */
    private static String tale(CounterpointChecker x, boolean withText) {
        List<String> all = new ArrayList<>();
        tellAll(all, x, withText);
        if (withText) {
            all.add(Script.outcome(x, "weights"));
            all.add("" + x.errorPosition());
            tell(all, x, true);
        }
        for (int i = 0; i < 7; i++) {
            all.add(Script.outcome(x, "undo"));
            tell(all, x, withText);
        }
        all.add(Script.outcome(x, "restore"));
        tellAll(all, x, withText);
        return String.join(" ", all);
    }

    private static void unchanged() {
        boolean[] wasRefused = new boolean[LINES.length];
        for (String[] scene : SCENES) {
            String want = tale(made(scene), true);
            for (int i = 0; i < LINES.length; i++) {
                CounterpointChecker x = made(scene);
                if (isRefused(Script.outcome(x, LINES[i]))) {
                    wasRefused[i] = true;
                    CHECK.dueText("A method that throws an exception leaves the state unchanged: " + LINES[i], want,
                        tale(x, true));
                }
            }
        }
        for (int i = 0; i < LINES.length; i++) {
            int line = i;
            CHECK.due("refused in some scene: " + LINES[i], 1, () -> wasRefused[line] ? 1 : 0);
        }
    }

    /** The calls that read texts empty the buffer and set the error position, but change nothing else. */
    private static void unchangedByTexts() {
        String[] lines = {"cantus", "counterpoint", "weights"};
        String[] texts = {"", "c4,d4,e", "-", "leap=5,weak=", "leap=5,range=8,x=1", ","};
        for (String[] scene : SCENES) {
            String want = tale(made(scene), false);
            for (String line : lines) {
                for (String text : texts) {
                    CounterpointChecker x = made(scene);
                    Script.outcome(x, "cantus x");
                    int buffer = text.length();
                    Check.type(x, text);
                    String outcome = Script.outcome(x, line);
                    int place = x.errorPosition();
                    boolean isRead = !outcome.equals("STATE");
                    CHECK.due(line + " of '" + text + "' is refused", 1, () -> isRefused(outcome) ? 1 : 0);
                    CHECK.due(line + " of '" + text + "' leaves so many characters", isRead ? 0 : buffer,
                        () -> x.count(8));
                    CHECK.due(line + " of '" + text + "' has found an error", 1, () -> place >= 0 ? 1 : 0);
                    CHECK.dueText("nothing else is changed by " + line + " of '" + text + "'", want, tale(x, false));
                }
            }
        }
    }

    private static void unchangedByFullBuffer() {
        CounterpointChecker x = made(SINGLE);
        for (int i = 0; i < 43; i++) {
            x.append(Check.packed(",weak=7".substring(0, 4)));
        }
        SAY.run("a buffer that is too full for four characters, not for two", x, "count 8 -> 178",
            "append 0x61616161 -> STATE", "append 0x616161 -> STATE", "count 8 -> 178", "append 0x6161 -> 180",
            "append 0x61 -> STATE", "append 0x20 -> ARGUMENT", "count 8 -> 180");
    }

    private static void unchangedBySearch() {
        String[] scene = {"setWeight 14 0", "set 0 59", "cantus d4,c4", "search", "counterpoint b4,b4", "set 1 59"};
        String want = tale(made(scene), true);
        CounterpointChecker x = made(scene);
        CHECK.dueText("search in vain", "UNSUPPORTED", Script.outcome(x, "search"));
        CHECK.dueText("search in vain leaves the state unchanged", want, tale(x, true));
        String[] other = Script.joined(scene, "set 1 72", "cantus d4,d4,c4");
        CounterpointChecker y = made(other);
        CHECK.dueText("adopt of too few notes", "UNSUPPORTED", Script.outcome(y, "adopt"));
        CHECK.dueText("adopt leaves the state unchanged", tale(made(other), true), tale(y, true));
    }

    private static void orderWithoutCantus() {
        SAY.sentence("If several exceptions are possible, the one listed first is thrown: without a cantus",
            "counterpoint x -> STATE", "setNote 9 9 9 -> STATE", "note 9 -1 -> STATE", "note 9 9 -> STATE",
            "text true 99 -> STATE", "text false 99 -> STATE", "interval 9 9 9 -> STATE", "motion 9 -> STATE",
            "motions 9 -> STATE", "contraryBits -> STATE", "fault 9 9 -> STATE", "explain 9 99 -> STATE",
            "faults 99 -> STATE", "faultsIn 99 -> STATE", "better 9 9 -> STATE", "costWith 9 9 9 -> STATE",
            "search -> STATE", "suggested 99 -> STATE", "adopt -> STATE", "setSpecies 2", "search -> STATE",
            "adopt -> STATE");
    }

    private static void orderWithoutCounterpoint() {
        SAY.sentence("the one listed first is thrown: without a counterpoint",
            "cantus d4,c4", "setNote 9 9 9 -> STATE", "note 9 -2 -> STATE", "note 9 -1 -> INDEX",
            "text false 99 -> STATE", "text true 99 -> INDEX", "interval 9 9 9 -> STATE", "motion 9 -> STATE",
            "motions 9 -> STATE", "contraryBits -> STATE", "fault 9 9 -> STATE", "explain 9 99 -> STATE",
            "faults 99 -> STATE", "faultsIn 99 -> STATE", "better 9 9 -> STATE", "costWith 9 9 9 -> STATE",
            "suggested 99 -> STATE", "setSpecies 2", "search -> STATE", "adopt -> STATE");
    }

    private static void orderBesideRest() {
        SAY.sentence("the one listed first is thrown: with a counterpoint that begins with a rest",
            "cantus d4,c4", "setSpecies 2", "counterpoint -,b4,c5", "setNote 9 9 9 -> INDEX", "setNote 0 9 9 -> INDEX",
            "setNote 0 0 9 -> ARGUMENT", "setNote 0 0 85 -> ELEMENT", "interval 9 9 9 -> INDEX",
            "interval 0 9 9 -> INDEX", "interval 0 0 9 -> ELEMENT", "interval 0 1 9 -> ARGUMENT", "better 9 9 -> INDEX",
            "better 0 9 -> INDEX", "better 0 0 -> ELEMENT", "costWith 9 9 9 -> INDEX", "costWith 0 9 9 -> INDEX",
            "costWith 0 0 9 -> ARGUMENT", "costWith 0 0 85 -> ELEMENT", "motion 0 -> ELEMENT", "motion 1 -> INDEX",
            "fault 99 9 -> ELEMENT", "fault 0 9 -> ARGUMENT", "explain 99 99 -> ELEMENT", "explain 0 99 -> INDEX");
    }

    private static void orderOfTheOthers() {
        SAY.sentence("the one listed first is thrown: of those that need no lines",
            "set 3 999 -> INDEX", "set -1 -1 -> INDEX", "set 0 999 -> ARGUMENT", "noteOf 41 9 -> INDEX",
            "noteOf 147 -1 -> INDEX", "noteOf 42 9 -> ARGUMENT", "setWeight 0 10 -> INDEX", "setWeight 17 -1 -> INDEX",
            "setWeight 1 10 -> ARGUMENT");
        SAY.sentence("the one listed first is thrown: a wrong character and a full buffer",
            Script.joined(Script.times(45, "type c4,d"), "append 0x20 -> ARGUMENT", "append 0x63636320 -> ARGUMENT",
                "append 0x20636363 -> ARGUMENT", "append 0x63 -> STATE"));
        SAY.sentence("the one listed first is thrown: a suggestion, but no cantus, in species 2, of another length",
            "save", "only 1", "cantus c4,c4", "search -> 2", "restore -> 0", "setSpecies 2", "adopt -> STATE",
            "cantus c4,c4,c4", "adopt -> UNSUPPORTED", "setSpecies 1", "adopt -> UNSUPPORTED");
    }
}
