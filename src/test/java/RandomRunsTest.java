import java.util.List;
import java.util.Map;
import java.util.TreeMap;

/** All promises: runs of calls made by a small generator, each answer compared with that of the model. */
public final class RandomRunsTest {
    private static final int RUNS = 300;
    private static final int CALLS = 160;
    private static final int MOST_CALLS = 512;
    private static final int KINDS = 38;
    private static final List<String> CALL_NAMES = List.of("append", "cantus", "counterpoint", "errorPosition",
        "setSpecies", "setPosition", "set", "setNote", "note", "noteOf", "text", "interval", "motion", "motions",
        "contraryBits", "meanBits", "setWeight", "weights", "weight", "fault", "explain", "faults", "faultsIn", "cost",
        "better", "costWith", "search", "suggested", "adopt", "count", "undo", "save", "restore");

    private final Check check = new Check();
    private final Map<String, Integer> answered = new TreeMap<>();
    private final Map<String, Integer> refused = new TreeMap<>();
    private long seed;
    private CounterpointChecker x;
    private Model y;
    private StringBuilder log;
    private int calls;
    private boolean stopped;

    public static void main(String[] args) {
        RandomRunsTest test = new RandomRunsTest();
        int runs = args.length > 0 ? Integer.parseInt(args[0]) : RUNS;
        int first = args.length > 1 ? Integer.parseInt(args[1]) : 0;
        for (int run = first; run < first + runs; run++) {
            test.run(run);
        }
        for (String name : CALL_NAMES) {
            if (!test.answered.containsKey(name)) {
                test.check.complain(name + " never answered");
            }
        }
        System.out.println("answered " + test.answered);
        System.out.println("refused " + test.refused);
        test.check.end();
    }

    /** A linear generator of its own, so that all runs are the same on every machine. */
    private int below(int bound) {
        seed = seed * 6364136223846793005L + 1442695040888963407L;
        return (int) ((seed >>> 33) % bound);
    }

    private int around(int least, int most) {
        return least - 1 + below(most - least + 3);
    }

    private void run(int number) {
        seed = number * 7919L + 17;
        below(2);
        x = new CounterpointChecker();
        y = new Model();
        log = new StringBuilder();
        calls = 0;
        stopped = false;
        boolean calm = number % 3 != 0;
        for (int i = 0; i < CALLS && !stopped; i++) {
            int kind = i < 4 && calm ? 33 + i % 2 : below(KINDS);
            // Most buffers hold no text that can be read.
            boolean isReading = kind == 1 || kind == 2 || kind == 17;
            boolean isBare = y.count(1) == 0 && below(2) == 0;
            step(calm && isBare ? (y.count(0) == 0 ? 33 : 34) : calm && isReading && below(4) != 0 ? 24 : kind);
        }
    }

    private void same(String call, Check.Call own, Check.Call model) {
        if (stopped) {
            return;
        }
        log.append(call).append('\n');
        calls++;
        String got = outcome(own);
        String want = outcome(model);
        (got.startsWith("java") ? refused : answered).merge(call.substring(0, call.indexOf('(')), 1, Integer::sum);
        check.dueText(call, want, got);
        if (!got.equals(want)) {
            System.out.println("after\n" + log);
        }
        stopped = !got.equals(want) || calls == MOST_CALLS;
    }

    private static String outcome(Check.Call call) {
        try {
            return String.valueOf(call.answer());
        } catch (RuntimeException e) {
            return e.getClass().getName();
        }
    }

    private int bar() {
        return below(12) == 0 ? around(0, 12) : below(Math.max(1, y.count(0)));
    }

    private int beat() {
        int[] beats = {1, 1, 2, 4, 2};
        return below(12) == 0 ? around(-1, 4) : below(beats[y.count(2)]);
    }

    private int code() {
        return below(12) == 0 ? around(42, 146) : 42 + below(105);
    }

    private void step(int call) {
        if (call < 11) {
            lines(call);
        } else if (call < 24) {
            faults(call);
        } else if (call < 33) {
            suggestions(call);
        } else {
            longer(call);
        }
    }

    private void lines(int call) {
        int bar = bar();
        int beat = beat();
        int code = code();
        boolean flag = below(2) == 0;
        int any = around(-1, 40);
        switch (call) {
            case 0: append(below(3) == 0 ? below(1 << 30) * 4 + below(4) : Check.packed(signs())); break;
            case 1: same("cantus()", x::cantus, y::cantus); break;
            case 2: same("counterpoint()", x::counterpoint, y::counterpoint); break;
            case 3: same("errorPosition()", x::errorPosition, y::errorPosition); break;
            case 4:
                int species = below(3) == 0 ? around(1, 4) : y.count(2);
                same("setSpecies(" + species + ")", () -> x.setSpecies(species), () -> y.setSpecies(species));
                break;
            case 5: same("setPosition(" + flag + ")", () -> x.setPosition(flag) ? 1 : 0,
                () -> y.setPosition(flag) ? 1 : 0); break;
            case 6:
                int what = around(0, 2);
                int value = what == 2 ? around(12, 36) : below(3) == 0 ? around(24, 84) : what == 0 ? 36 : 72;
                same("set(" + what + ", " + value + ")", () -> x.set(what, value), () -> y.set(what, value));
                break;
            case 7: same("setNote(" + bar + ", " + beat + ", " + code + ")", () -> x.setNote(bar, beat, code),
                () -> y.setNote(bar, beat, code)); break;
            case 8:
                int shown = below(3) == 0 ? -1 : beat;
                same("note(" + bar + ", " + shown + ")", () -> x.note(bar, shown), () -> y.note(bar, shown));
                break;
            case 9:
                int property = around(0, 4);
                same("noteOf(" + code + ", " + property + ")", () -> x.noteOf(code, property),
                    () -> y.noteOf(code, property));
                break;
            default: same("text(" + flag + ", " + any + ")", () -> x.text(flag, any), () -> y.text(flag, any));
        }
    }

    private void faults(int call) {
        int bar = bar();
        int beat = beat();
        int what = around(0, 4);
        int rule = around(1, 16);
        int index = around(0, 12);
        switch (call) {
            case 11: same("interval(" + bar + ", " + beat + ", " + what + ")", () -> x.interval(bar, beat, what),
                () -> y.interval(bar, beat, what)); break;
            case 12: same("motion(" + bar + ")", () -> x.motion(bar), () -> y.motion(bar)); break;
            case 13: same("motions(" + what + ")", () -> x.motions(what), () -> y.motions(what)); break;
            case 14: same("contraryBits()", x::contraryBits, y::contraryBits); break;
            case 15: same("meanBits()", x::meanBits, y::meanBits); break;
            case 16:
                int weight = below(2) == 0 ? 0 : around(0, 9);
                same("setWeight(" + rule + ", " + weight + ")", () -> x.setWeight(rule, weight),
                    () -> y.setWeight(rule, weight));
                break;
            case 17: same("weights()", x::weights, y::weights); break;
            case 18: same("weight(" + rule + ")", () -> x.weight(rule), () -> y.weight(rule)); break;
            case 19: same("fault(" + index + ", " + what + ")", () -> x.fault(index, what),
                () -> y.fault(index, what)); break;
            case 20:
                int sign = around(-1, 15);
                same("explain(" + index + ", " + sign + ")", () -> x.explain(index, sign),
                    () -> y.explain(index, sign));
                break;
            case 21: same("faults(" + (rule - 1) + ")", () -> x.faults(rule - 1), () -> y.faults(rule - 1)); break;
            case 22: same("faultsIn(" + bar + ")", () -> x.faultsIn(bar), () -> y.faultsIn(bar)); break;
            default: same("cost()", x::cost, y::cost);
        }
    }

    private void suggestions(int call) {
        int bar = bar();
        int beat = beat();
        int code = code();
        int what = around(0, 10);
        switch (call) {
            case 24: same("better(" + bar + ", " + beat + ")", () -> x.better(bar, beat), () -> y.better(bar, beat));
                break;
            case 25: same("costWith(" + bar + ", " + beat + ", " + code + ")", () -> x.costWith(bar, beat, code),
                () -> y.costWith(bar, beat, code)); break;
            case 26: same("search()", x::search, y::search); break;
            case 27: same("suggested(" + bar + ")", () -> x.suggested(bar), () -> y.suggested(bar)); break;
            case 28: same("adopt()", x::adopt, y::adopt); break;
            case 29: same("count(" + what + ")", () -> x.count(what), () -> y.count(what)); break;
            case 30: same("undo()", x::undo, y::undo); break;
            case 31: same("save()", x::save, y::save); break;
            default: same("restore()", x::restore, y::restore);
        }
    }

    private void longer(int call) {
        switch (call) {
            case 33: typeCantus(); break;
            case 34: typeCounterpoint(); break;
            case 35: typeWeights(); break;
            case 36: widen(); break;
            default: allFaults();
        }
    }

    private void append(int packed) {
        same("append(" + packed + ")", () -> x.append(packed), () -> y.append(packed));
    }

    private String signs() {
        String some = "cdefgab23456#b,,-=19 z";
        StringBuilder text = new StringBuilder();
        for (int i = below(5); i > 0; i--) {
            text.append(some.charAt(below(some.length())));
        }
        return text.toString();
    }

    /** Now and then with one sign wrong, missing or too many. */
    private void type(String text) {
        StringBuilder typed = new StringBuilder(text);
        if (below(8) == 0 && typed.length() > 0) {
            int at = below(typed.length());
            switch (below(4)) {
                case 0: typed.setCharAt(at, "cb2#,-=x".charAt(below(8))); break;
                case 1: typed.deleteCharAt(at); break;
                case 2: typed.insert(at, "cb2#,-=x".charAt(below(8))); break;
                default: typed.setLength(at);
            }
        }
        for (int i = 0; i < typed.length() && !stopped; i += 4) {
            append(Check.packed(typed.substring(i, Math.min(typed.length(), i + 4))));
        }
    }

    private static String spelled(int step, int alteration) {
        return "cdefgab".charAt(step % 7) + (alteration > 0 ? "#" : alteration < 0 ? "b" : "") + step / 7;
    }

    private int alteration() {
        int way = below(12);
        return way == 0 ? 1 : way == 1 ? -1 : 0;
    }

    private void typeCantus() {
        int notes = below(10) == 0 ? around(1, 13) : 2 + below(11);
        int step = 24 + below(9);
        StringBuilder text = new StringBuilder();
        for (int i = 0; i < notes; i++) {
            text.append(i == 0 ? "" : ",").append(spelled(step, alteration()));
            int move = below(6) == 0 ? 1 + below(5) : below(8) == 0 ? 0 : 1;
            step = Math.min(40, Math.max(16, step + (below(2) == 0 ? move : -move)));
        }
        type(text.toString());
        same("cantus()", x::cantus, y::cantus);
    }

    private void typeCounterpoint() {
        int bars = y.count(0);
        int species = y.count(2);
        int beats = new int[] {1, 1, 2, 4, 2}[species];
        StringBuilder text = new StringBuilder();
        int step = 28;
        int turn = 0;
        for (int i = 0; i <= Math.max(0, bars - 1) * beats + (below(15) == 0 ? 1 : 0); i++) {
            int bar = Math.min(i / beats, bars - 1);
            int given = bars == 0 ? 28 : y.noteOf(y.note(bar, -1), 0);
            int[] consonances = {0, 2, 4, 5, 7, 9, 11, 4, 7};
            boolean tie = species == 4 && i > 0 && i % 2 == 0 && below(4) != 0;
            if (!tie) {
                boolean moves = i > 0 && below(3) != 0;
                int far = consonances[below(9)];
                step = moves ? step + below(3) - 1 : given + (y.count(3) == 1 ? -far : far);
                turn = alteration();
            }
            step = Math.min(48, Math.max(14, step));
            boolean rest = i == 0 && below(4) == 0 && (species > 1 || below(5) == 0);
            text.append(i == 0 ? "" : ",").append(rest ? "-" : spelled(step, turn));
        }
        type(text.toString());
        same("counterpoint()", x::counterpoint, y::counterpoint);
    }

    private void typeWeights() {
        StringBuilder text = new StringBuilder();
        for (int i = below(5); i >= 0; i--) {
            text.append(text.length() == 0 ? "" : ",").append(Model.NAMES.get(below(16))).append('=').append(below(10));
        }
        type(text.toString());
        same("weights()", x::weights, y::weights);
    }

    /** Makes a search likelier to find a line. */
    private void widen() {
        for (int i = 0; i < 6; i++) {
            int rule = 1 + below(16);
            same("setWeight(" + rule + ", 0)", () -> x.setWeight(rule, 0), () -> y.setWeight(rule, 0));
        }
        same("setSpecies(1)", () -> x.setSpecies(1), () -> y.setSpecies(1));
        same("search()", x::search, y::search);
        same("adopt()", x::adopt, y::adopt);
    }

    private void allFaults() {
        same("faults(0)", () -> x.faults(0), () -> y.faults(0));
        for (int rule = 1; rule <= 16; rule++) {
            int asked = rule;
            same("faults(" + rule + ")", () -> x.faults(asked), () -> y.faults(asked));
        }
        for (int i = 0; i < 6; i++) {
            int index = i;
            for (int what = 0; what < 4; what++) {
                int asked = what;
                same("fault(" + i + ", " + what + ")", () -> x.fault(index, asked), () -> y.fault(index, asked));
            }
        }
    }
}
