/** Every call with arguments at and beyond all their ends, in many scenes, compared with the model. */
public final class SweepTest {
    private static final Check CHECK = new Check();
    private static final int[] BARS = {Integer.MIN_VALUE, -2, -1, 0, 1, 2, 10, 11, 12, 13, 0x40000000, Integer.MAX_VALUE};
    private static final int[] SMALL = {Integer.MIN_VALUE, -2, -1, 0, 1, 2, 3, 4, 5, 0x40000000, Integer.MAX_VALUE};
    private static final int[] CODES = {Integer.MIN_VALUE, -1, 0, 41, 42, 62, 85, 102, 146, 147, Integer.MAX_VALUE};
    private static final int[] VALUES = {Integer.MIN_VALUE, -1, 0, 9, 10, 11, 12, 16, 23, 24, 36, 37, 72, 73, 84, 85,
        Integer.MAX_VALUE};
    private static final int[] RULES = {Integer.MIN_VALUE, -1, 0, 1, 2, 3, 4, 5, 6, 7, 8, 9, 10, 11, 12, 13, 14, 15, 16,
        17, Integer.MAX_VALUE};
    private static final int[] FAULTS = {Integer.MIN_VALUE, -2, -1, 0, 1, 2, 3, 5, 8, 13, 50, 181, 182,
        Integer.MAX_VALUE};
    private static final int[] SIGNS = {Integer.MIN_VALUE, -2, -1, 0, 1, 6, 7, 10, 11, 12, 13, 14, 15, 16, 17, 34, 35, 36,
        178, 179, 180, Integer.MAX_VALUE};
    private static final int[] BYTES = {0, 1, 32, 33, 99, 126, 127, 128, 255};

    private static final int MOST_CALLS = 512;

    private static CounterpointChecker x;
    private static Model y;
    private static String scene;
    private static String[] rows;
    private static int calls;

    /** Each scene: the species, the position, the cantus, the counterpoint. */
    private static final String[][] SCENES = {
        {"1", "", "", ""}, {"3", "below", "", ""}, {"1", "", "d4,c4", ""}, {"4", "", "d4,c4,d4", ""},
        {"1", "", "d4,c4", "b4,c5"}, {"1", "below", "d4,c4", "b4,b4"}, {"2", "", "d4,c4", "-,b4,c5"},
        {"2", "", "c4,d4,c4", "c#5,c#5,d4,d4,e5"}, {"3", "below", "c4,d4", "-,g3,a3,b3,d3"},
        {"3", "", Script.row(12, "c2"), Script.row(45, "b#6")},
        {"4", "", "c4,d4,d4,c4", "-,c5,c5,bb4,bb4,b4,b4"}, {"4", "below", "cb4,c4", "c4,b#3,b#3"},
        {"2", "", Script.row(12, "c#4"), "-," + Script.row(22, "bb4")},
        {"1", "", Script.row(12, "bb3"), Script.row(12, "a#3")}};

    public static void main(String[] args) {
        for (String[] one : SCENES) {
            rows = one;
            scene = String.join(" ", rows);
            make();
            readers();
            changers();
        }
        bytes();
        CHECK.end();
    }

    private static void make() {
        x = new CounterpointChecker();
        y = new Model();
        calls = 2;
        x.setSpecies(rows[0].charAt(0) - '0');
        y.setSpecies(rows[0].charAt(0) - '0');
        x.setPosition(!rows[1].isEmpty());
        y.setPosition(!rows[1].isEmpty());
        if (!rows[2].isEmpty()) {
            type(rows[2]);
            call("cantus()", x::cantus, y::cantus);
        }
        if (!rows[3].isEmpty()) {
            type(rows[3]);
            call("counterpoint()", x::counterpoint, y::counterpoint);
        }
    }

    private static void type(String text) {
        for (int i = 0; i < text.length(); i += 4) {
            int packed = Check.packed(text.substring(i, Math.min(text.length(), i + 4)));
            call("append(" + packed + ")", () -> x.append(packed), () -> y.append(packed));
        }
    }

    private static String outcome(Check.Call call) {
        try {
            return String.valueOf(call.answer());
        } catch (RuntimeException e) {
            return e.getClass().getName();
        }
    }

    private static void call(String call, Check.Call own, Check.Call model) {
        calls++;
        CHECK.dueText(scene + ": " + call, outcome(model), outcome(own));
    }

    /** A call that changes nothing: its object can be a new one. */
    private static void same(String call, Check.Call own, Check.Call model) {
        if (calls == MOST_CALLS) {
            make();
        }
        call(call, own, model);
    }

    private static void readers() {
        for (int bar : BARS) {
            same("motion(" + bar + ")", () -> x.motion(bar), () -> y.motion(bar));
            same("faultsIn(" + bar + ")", () -> x.faultsIn(bar), () -> y.faultsIn(bar));
            same("suggested(" + bar + ")", () -> x.suggested(bar), () -> y.suggested(bar));
            for (int beat : SMALL) {
                String at = bar + ", " + beat;
                same("note(" + at + ")", () -> x.note(bar, beat), () -> y.note(bar, beat));
                for (int what : SMALL) {
                    same("interval(" + at + ", " + what + ")", () -> x.interval(bar, beat, what),
                        () -> y.interval(bar, beat, what));
                }
                for (int code : CODES) {
                    same("costWith(" + at + ", " + code + ")", () -> x.costWith(bar, beat, code),
                        () -> y.costWith(bar, beat, code));
                }
            }
        }
        faults();
        same("contraryBits()", x::contraryBits, y::contraryBits);
        same("meanBits()", x::meanBits, y::meanBits);
        same("cost()", x::cost, y::cost);
        for (int beat : SMALL) {
            same("better(0, " + beat + ")", () -> x.better(0, beat), () -> y.better(0, beat));
            same("better(1, " + beat + ")", () -> x.better(1, beat), () -> y.better(1, beat));
        }
        for (int code : CODES) {
            for (int what : SMALL) {
                same("noteOf(" + code + ", " + what + ")", () -> x.noteOf(code, what), () -> y.noteOf(code, what));
            }
        }
        for (int what : RULES) {
            same("motions(" + what + ")", () -> x.motions(what), () -> y.motions(what));
            same("count(" + what + ")", () -> x.count(what), () -> y.count(what));
        }
    }

    private static void faults() {
        for (int rule : RULES) {
            same("faults(" + rule + ")", () -> x.faults(rule), () -> y.faults(rule));
            same("weight(" + rule + ")", () -> x.weight(rule), () -> y.weight(rule));
        }
        for (int number : FAULTS) {
            for (int what : SMALL) {
                same("fault(" + number + ", " + what + ")", () -> x.fault(number, what), () -> y.fault(number, what));
            }
            for (int sign : SIGNS) {
                same("explain(" + number + ", " + sign + ")", () -> x.explain(number, sign),
                    () -> y.explain(number, sign));
            }
        }
        for (int sign : SIGNS) {
            same("text(true, " + sign + ")", () -> x.text(true, sign), () -> y.text(true, sign));
            same("text(false, " + sign + ")", () -> x.text(false, sign), () -> y.text(false, sign));
        }
    }

    private static void changers() {
        for (int what : SMALL) {
            for (int value : VALUES) {
                changed("set(" + what + ", " + value + ")", () -> x.set(what, value), () -> y.set(what, value));
            }
            changed("setSpecies(" + what + ")", () -> x.setSpecies(what), () -> y.setSpecies(what));
        }
        for (int rule : RULES) {
            for (int weight : VALUES) {
                changed("setWeight(" + rule + ", " + weight + ")", () -> x.setWeight(rule, weight),
                    () -> y.setWeight(rule, weight));
            }
        }
        for (int bar : BARS) {
            for (int beat : SMALL) {
                for (int code : CODES) {
                    changed("setNote(" + bar + ", " + beat + ", " + code + ")", () -> x.setNote(bar, beat, code),
                        () -> y.setNote(bar, beat, code));
                }
            }
        }
        changed("search()", x::search, y::search);
        changed("adopt()", x::adopt, y::adopt);
        changed("restore()", x::restore, y::restore);
        changed("cantus()", x::cantus, y::cantus);
        changed("counterpoint()", x::counterpoint, y::counterpoint);
        changed("weights()", x::weights, y::weights);
    }

    /** The call, what it has done, and the way back. */
    private static void changed(String change, Check.Call own, Check.Call model) {
        if (calls + 16 > MOST_CALLS || y.count(9) < 2) {
            make();
        }
        call(change, own, model);
        String was = change + ", then ";
        call(was + "cost()", x::cost, y::cost);
        for (int what = 0; what <= 10; what++) {
            int asked = what;
            call(was + "count(" + what + ")", () -> x.count(asked), () -> y.count(asked));
        }
        call(was + "undo()", x::undo, y::undo);
        call(was + "undo() and cost()", x::cost, y::cost);
    }

    /** Every place in the int with bytes at all their ends. */
    private static void bytes() {
        scene = "a new object";
        for (int first : BYTES) {
            for (int second : BYTES) {
                for (int third : BYTES) {
                    x = new CounterpointChecker();
                    y = new Model();
                    for (int last : BYTES) {
                        int packed = first << 24 | second << 16 | third << 8 | last;
                        call("append(" + packed + ")", () -> x.append(packed), () -> y.append(packed));
                    }
                }
            }
        }
    }
}
