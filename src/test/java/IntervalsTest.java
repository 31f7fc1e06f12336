/** Promises 13 to 17: intervals, motions and their means. */
public final class IntervalsTest {
    private static final Check CHECK = new Check();
    private static final Class<IllegalArgumentException> ARGUMENT = IllegalArgumentException.class;
    private static final Class<IllegalStateException> STATE = IllegalStateException.class;
    private static final Class<IndexOutOfBoundsException> INDEX = IndexOutOfBoundsException.class;
    private static final Class<java.util.NoSuchElementException> ELEMENT = java.util.NoSuchElementException.class;

    public static void main(String[] args) {
        intervals();
        ties();
        intervalErrors();
        motion();
        motionErrors();
        motions();
        contraryBits();
        meanBits();
        CHECK.end();
    }

    /** Each row: the cantus, the other note, steps, width, 2 or 1 or 0 for the sound, the class. */
    private static void intervals() {
        String[] notes = {"c4,c4", "c4,c5", "c4,c6", "c4,g4", "c4,g5", "g4,c4", "c4,eb4", "c4,e4", "c4,e5", "c4,ab4",
            "c4,a4", "c3,a4", "c4,d4", "c4,f4", "c4,b4", "c4,c#4", "c4,gb4", "c4,g#4", "c4,d#4", "c4,b#3", "c4,e#4",
            "c4,fb4", "c4,a#4", "c2,b6", "cb2,b#6"};
        int[][] want = {{0, 0, 2, 8}, {7, 12, 2, 8}, {14, 24, 2, 8}, {4, 7, 2, 5}, {11, 19, 2, 5}, {4, 7, 2, 5},
            {2, 3, 1, 0}, {2, 4, 1, 0}, {9, 16, 1, 0}, {5, 8, 1, 0},
            {5, 9, 1, 0}, {12, 21, 1, 0}, {1, 2, 0, 0}, {3, 5, 0, 0}, {6, 11, 0, 0}, {0, 1, 0, 0}, {4, 6, 0, 0},
            {4, 8, 0, 0}, {1, 3, 0, 0}, {1, 0, 0, 0}, {2, 5, 0, 0},
            {3, 4, 0, 0}, {5, 10, 0, 0}, {34, 59, 0, 0}, {34, 61, 0, 0}};
        for (int i = 0; i < notes.length; i++) {
            int comma = notes[i].indexOf(',');
            String given = notes[i].substring(0, comma);
            String other = notes[i].substring(comma + 1);
            CounterpointChecker x = Check.withLines(1, "c4," + given, "c4," + other);
            for (int what = 0; what < 4; what++) {
                int asked = what;
                CHECK.due(notes[i] + " what " + what, want[i][what], () -> x.interval(1, 0, asked));
            }
            CHECK.due(notes[i] + " is not tied", 0, () -> x.interval(1, 0, 4));
        }
    }

    private static void ties() {
        CounterpointChecker x = Check.withLines(4, "c4,d4,c4,c4", "c5,c5,c5,b4,cb5,c5,c5");
        int[] bars = {0, 0, 1, 1, 2, 2, 3};
        int[] beats = {0, 1, 0, 1, 0, 1, 0};
        int[] want = {0, 0, 1, 0, 0, 0, 1};
        for (int i = 0; i < want.length; i++) {
            int at = i;
            CHECK.due("tie of note " + i, want[i], () -> x.interval(bars[at], beats[at], 4));
        }
        CounterpointChecker second = Check.withLines(2, "c4,d4", "c5,c5,c5");
        CHECK.due("no tie in species 2", 0, () -> second.interval(1, 0, 4));
    }

    private static void intervalErrors() {
        CounterpointChecker none = Check.withCantus("c4,d4");
        CHECK.refused("interval without a counterpoint", STATE, () -> none.interval(9, 9, 9));
        CounterpointChecker x = Check.withLines(2, "c4,d4", "-,c5,d5");
        CHECK.refused("interval in bar 2", INDEX, () -> x.interval(2, 0, 9));
        CHECK.refused("interval in bar -1", INDEX, () -> x.interval(-1, 0, 0));
        CHECK.refused("interval on beat 2", INDEX, () -> x.interval(0, 2, 0));
        CHECK.refused("interval on beat -1", INDEX, () -> x.interval(0, -1, 0));
        CHECK.refused("interval on beat 1 of the last bar", INDEX, () -> x.interval(1, 1, 0));
        CHECK.refused("interval of a rest", ELEMENT, () -> x.interval(0, 0, 9));
        CHECK.refused("what 5", ARGUMENT, () -> x.interval(0, 1, 5));
        CHECK.refused("what -1", ARGUMENT, () -> x.interval(0, 1, -1));
    }

    private static void motion() {
        CounterpointChecker x = Check.withLines(1, "c4,c4,c4,d4,e4,d4,b3,b3,b#3", "c5,c5,d5,d5,c5,b4,a4,a#4,bb4");
        int[] want = {0, 1, 1, 2, 3, 3, 1, 1};
        for (int bar = 0; bar < want.length; bar++) {
            int from = bar;
            CHECK.due("motion(" + bar + ")", want[bar], () -> x.motion(from));
        }
        CounterpointChecker y = Check.withLines(1, "c4,d4,c4,b#3,c4", "c5,d5,c5,c5,b#4");
        CHECK.due("the same width up", 4, () -> y.motion(0));
        CHECK.due("the same width down", 4, () -> y.motion(1));
        CHECK.due("c to b sharp is no motion", 0, () -> y.motion(2));
        CHECK.due("twice no motion", 0, () -> y.motion(3));
        CounterpointChecker z = Check.withLines(3, "c4,d4,c4", "c5,a4,g4,d5,e5,f5,g5,a5,d5");
        CHECK.due("from beat 0 to beat 0", 3, () -> z.motion(0));
        CHECK.due("to the last bar", 4, () -> z.motion(1));
    }

    private static void motionErrors() {
        CounterpointChecker none = Check.withCantus("c4,d4");
        CHECK.refused("motion without a counterpoint", STATE, () -> none.motion(-1));
        CounterpointChecker x = Check.withLines(2, "c4,d4,c4", "-,c5,d5,c5,c5");
        CHECK.refused("motion(-1)", INDEX, () -> x.motion(-1));
        CHECK.refused("motion of the last bar", INDEX, () -> x.motion(2));
        CHECK.refused("motion(3)", INDEX, () -> x.motion(3));
        CHECK.refused("motion from a rest", ELEMENT, () -> x.motion(0));
        CHECK.due("motion behind a rest", 4, () -> x.motion(1));
    }

    private static void motions() {
        CounterpointChecker none = Check.withCantus("c4,d4");
        CHECK.refused("motions without a counterpoint", STATE, () -> none.motions(9));
        CounterpointChecker x = Check.withLines(1, "c4,c4,c4,d4,e4,d4,b3,c4", "c5,c5,d5,d5,c5,b4,a4,bb4");
        int[] want = {1, 2, 1, 2, 1};
        for (int kind = 0; kind < want.length; kind++) {
            int asked = kind;
            CHECK.due("motions(" + kind + ")", want[kind], () -> x.motions(asked));
        }
        CHECK.refused("motions(5)", ARGUMENT, () -> x.motions(5));
        CHECK.refused("motions(-1)", ARGUMENT, () -> x.motions(-1));
        CounterpointChecker y = Check.withLines(2, "c4,d4,c4", "-,c5,d5,c5,c5");
        CHECK.due("a bar with a rest has none", 0, () -> y.motions(0) + y.motions(1) + y.motions(2) + y.motions(3));
        CHECK.due("the other bar has one", 1, () -> y.motions(4));
    }

    /** Shares of 0 to n contrary motions among n for all n that a line can have. */
    private static void contraryBits() {
        CounterpointChecker none = Check.withCantus("c4,d4");
        CHECK.refused("contraryBits without a counterpoint", STATE, none::contraryBits);
        CounterpointChecker rest = Check.withLines(2, "c4,d4", "-,c5,d5");
        CHECK.refused("contraryBits without motions", ArithmeticException.class, rest::contraryBits);
        for (int all = 1; all <= 11; all++) {
            for (int contrary = 0; contrary <= all; contrary++) {
                StringBuilder cantus = new StringBuilder("c4");
                StringBuilder other = new StringBuilder("c5");
                for (int i = 1; i <= all; i++) {
                    cantus.append(i % 2 == 1 ? ",d4" : ",c4");
                    boolean risen = i % 2 == 1;
                    other.append(i > contrary ? (contrary % 2 == 1 ? ",b4" : ",c5") : risen ? ",b4" : ",c5");
                }
                CounterpointChecker x = Check.withLines(1, cantus.toString(), other.toString());
                int bits = Float.floatToIntBits((float) contrary / (float) all);
                CHECK.due(contrary + " of " + all + " motions are contrary", bits, x::contraryBits);
            }
        }
    }

    private static void meanBits() {
        CounterpointChecker none = Check.withCantus("c4,d4");
        CHECK.refused("meanBits without a counterpoint", STATE, none::meanBits);
        CounterpointChecker zero = Check.withLines(1, "c4,d4,c4", "c4,d4,c4");
        CHECK.due("the mean of zeros", 0, zero::meanBits);
        CounterpointChecker rest = Check.withLines(2, "c4,d4", "-,c5,e5");
        CHECK.due("the mean beside a rest", Double.doubleToLongBits(26.0 / 2.0), rest::meanBits);
        String names = "c2,d2,e2,f2,g2,a2,b2,c3,d3,e3,f3,g3,a3,b3,c4,d4,e4,f4,g4,a4,b4,c5,d5,e5,f5,g5,a5,b5,b#6";
        String[] notes = names.split(",");
        for (int bars = 2; bars <= 12; bars++) {
            for (int seed = 0; seed < 12; seed++) {
                StringBuilder other = new StringBuilder();
                CounterpointChecker x = new CounterpointChecker();
                Check.type(x, "c2,c2,c2,c2,c2,c2,c2,c2,c2,c2,c2,c2".substring(0, 3 * bars - 1)).cantus();
                x.setSpecies(3);
                long sum = 0;
                int number = 4 * (bars - 1) + 1;
                for (int i = 0; i < number; i++) {
                    int code = Math.floorMod(i * i * (seed + 3) + seed * 5, notes.length);
                    other.append(i == 0 ? "" : ",").append(notes[code]);
                }
                Check.type(x, other.toString()).counterpoint();
                for (int i = 0; i < number; i++) {
                    sum += x.interval(i / 4, i % 4, 1);
                }
                CHECK.due("the mean of " + other, Double.doubleToLongBits((double) sum / (double) number), x::meanBits);
            }
        }
    }
}
