/** Promises 18 to 25: the sixteen rules, their weights, and the faults that they find. */
public final class RulesTest {
    private static final Check CHECK = new Check();
    private static final Class<IllegalArgumentException> ARGUMENT = IllegalArgumentException.class;
    private static final Class<IllegalStateException> STATE = IllegalStateException.class;
    private static final Class<IndexOutOfBoundsException> INDEX = IndexOutOfBoundsException.class;
    private static final Class<java.util.NoSuchElementException> ELEMENT = java.util.NoSuchElementException.class;
    private static final String[] NAMES = {"", "range", "leap", "recover", "repeat", "outline", "climax", "strong",
        "weak", "parallel", "direct", "unison", "cross", "space", "begin", "cadence", "suspend"};

    public static void main(String[] args) {
        range();
        leap();
        recover();
        repeat();
        outline();
        climax();
        strong();
        weak();
        parallel();
        direct();
        unison();
        cross();
        space();
        begin();
        cadence();
        suspend();
        setWeight();
        weights();
        weightErrors();
        faultOrder();
        faultErrors();
        counts();
        cost();
        CHECK.end();
    }

    /** The faults that the rule finds if all others have the weight 0; the last letter of where is b for below. */
    private static void only(int rule, String where, String cantus, String counterpoint, String want) {
        CounterpointChecker x = Check.withLines(where.charAt(0) - '0', cantus, counterpoint);
        x.setPosition(where.endsWith("b"));
        for (int other = 1; other <= 16; other++) {
            if (other != rule) {
                x.setWeight(other, 0);
            }
        }
        String what = NAMES[rule] + " in " + where + " " + cantus + " with " + counterpoint;
        CHECK.dueText(what, want, Check.faultsOf(x));
        x.setWeight(rule, 0);
        CHECK.dueText(what + " and weight 0", "", Check.faultsOf(x));
    }

    private static void range() {
        only(1, "1", "c4,c4,c4,c4,c4", "c6,d6,c3,b2,c#6", "2.1:range=74 4.1:range=35 5.1:range=73");
        only(1, "2", "c4,c4", "-,cb2,b#6", "1.2:range=23 2.1:range=84");
        CounterpointChecker x = Check.withLines(1, "c4,c4", "c4,c5");
        x.set(1, 59);
        x.set(0, 49);
        CHECK.due("both ends of the range", 2, () -> x.faults(1));
        x.set(1, 60);
        x.set(0, 48);
        CHECK.due("the ends are allowed", 0, () -> x.faults(1));
    }

    private static void leap() {
        String[] moves = {"c4,c4", "e4,f4", "c4,d4", "c4,eb4", "c4,e4", "c4,f4", "c4,g4", "c4,c5", "c4,ab4", "c5,c4",
            "g4,c4", "f4,c4", "e4,c4", "d4,c4"};
        for (String move : moves) {
            only(2, "1", "c4,c4", move, "");
        }
        String[] wrong = {"c4,c#4", "c4,d#4", "c4,e#4", "c4,f#4", "c4,gb4", "ab4,c4", "c4,a4", "a4,c4", "c4,b4",
            "c4,d5", "c4,c6", "c4,b#3", "c4,fb4", "c4,cb5", "c4,c#5", "cb2,b#6"};
        int[] widths = {1, 3, 5, 6, 6, 8, 9, 9, 11, 14, 24, 0, 4, 11, 13, 61};
        for (int i = 0; i < wrong.length; i++) {
            only(2, "1", "c4,c4", wrong[i], "2.1:leap=" + widths[i]);
        }
        only(2, "2", "c4,c4", "-,c4,b4", "2.1:leap=11");
        only(2, "2", "c4,c4", "c4,b4,b4", "1.2:leap=11");
    }

    private static void recover() {
        only(3, "1", "c4,c4,c4", "c4,g4,f4", "");
        only(3, "1", "c4,c4,c4", "c4,g4,a4", "3.1:recover=4");
        only(3, "1", "c4,c4,c4", "c4,g4,e4", "3.1:recover=4");
        only(3, "1", "c4,c4,c4", "c4,g4,g4", "3.1:recover=4");
        only(3, "1", "c4,c4,c4", "c4,f4,g4", "");
        only(3, "1", "c4,c4,c4", "g4,c4,d4", "");
        only(3, "1", "c4,c4,c4", "g4,c4,b3", "3.1:recover=4");
        only(3, "1", "c4,c4,c4", "c4,c5,c5", "3.1:recover=7");
        only(3, "1", "c4,c4,c4", "f4,c5,b#4", "3.1:recover=4");
        only(3, "1", "c4,c4,c4,c4", "c4,c5,c4,d4", "3.1:recover=7");
        only(3, "2", "c4,c4,c4", "-,c4,g4,g4,f4", "2.2:recover=4");
    }

    private static void repeat() {
        only(4, "1", "c4,c4,c4", "c5,c5,d5", "2.1:repeat=0");
        only(4, "1", "c4,c4,c4", "c5,c5,c5", "2.1:repeat=0 3.1:repeat=0");
        only(4, "1", "c4,c4,c4", "c5,b#4,c5", "");
        only(4, "2", "c4,c4,c4", "-,c5,c5,d5,c5", "2.1:repeat=0");
        only(4, "4", "c4,c4,c4", "-,c5,c5,b4,b4", "");
        only(4, "4", "c4,c4,c4", "c5,c5,c5,b4,b4", "1.2:repeat=0");
        only(4, "4", "c4,c4,c4", "c5,c5,c5,c5,c5", "1.2:repeat=0 2.2:repeat=0");
    }

    private static void outline() {
        only(5, "1", "c4,c4,c4", "c4,e4,g4", "");
        only(5, "1", "c4,c4,c4", "c4,e4,a4", "");
        only(5, "1", "c4,c4,c4", "c4,f4,b4", "3.1:outline=6");
        only(5, "1", "c4,c4,c4", "c4,f4,c5", "");
        only(5, "1", "c4,c4,c4", "c4,g4,d5", "3.1:outline=8");
        only(5, "1", "c4,c4,c4", "b4,f4,c4", "3.1:outline=6");
        only(5, "1", "c4,c4,c4", "c4,g4,c4", "");
        only(5, "1", "c4,c4,c4", "c4,d4,d5", "");
        only(5, "1", "c4,c4,c4", "c4,c5,d5", "");
        only(5, "1", "c4,c4,c4,c4", "c4,f4,b4,e5", "3.1:outline=6 4.1:outline=6");
        only(5, "2", "c4,c4", "-,f4,b4", "");
    }

    private static void climax() {
        only(6, "1", "c4,c4,c4,c4", "c4,e4,d4,e4", "4.1:climax=2");
        only(6, "1", "c4,c4,c4,c4,c4", "e4,d4,e4,d4,e4", "3.1:climax=3");
        only(6, "1", "c4,c4,c4", "e4,d4,fb4", "3.1:climax=2");
        only(6, "1", "c4,c4,c4", "d4,e4,d4", "");
        only(6, "4", "c4,c4,c4", "-,e5,e5,d5,c5", "");
        only(6, "4", "c4,c4,c4", "-,e5,e5,e5,d5", "2.2:climax=2");
        only(6, "4", "c4,c4,c4", "e5,d5,d5,e5,e5", "2.2:climax=2");
        only(6, "4", "c4,c4,c4", "-,d5,e5,d5,fb5", "3.1:climax=2");
        only(6, "1", "c4,c4", "cb2,cb2", "2.1:climax=2");
    }

    private static void strong() {
        only(7, "1", "c4,d4,c4", "c5,e5,c5", "2.1:strong=14");
        only(7, "1", "c4,c4,c4", "f4,f#4,b4", "1.1:strong=5 2.1:strong=6 3.1:strong=11");
        only(7, "2", "c4,c4", "c5,b4,c5", "");
        only(7, "4", "d4,c4,d4", "-,b4,b4,a4,b4", "");
        only(7, "4", "d4,c4,d4", "-,a4,b4,a4,a4", "2.1:strong=11");
        only(7, "2", "d4,c4", "-,b4,b4", "2.1:strong=11");
    }

    private static void weak() {
        only(8, "2", "c4,c4", "g4,f4,e4", "");
        only(8, "2", "c4,c4", "e4,f4,g4", "");
        only(8, "2", "c4,c4", "g4,f4,g4", "1.2:weak=5");
        only(8, "2", "c4,c4", "g4,f4,f4", "1.2:weak=5");
        only(8, "2", "c4,c4", "c5,f4,e4", "1.2:weak=5");
        only(8, "2", "c4,c4", "-,f4,e4", "1.2:weak=5");
        only(8, "3", "c4,c4", "g4,f4,g4,f4,e4", "");
        only(8, "3", "c4,c4", "g4,f4,g#4,a4,e4", "1.2:weak=5");
        only(8, "3", "c4,c4", "e4,b4,e4,d4,e4", "1.2:weak=11");
        only(8, "3", "c4,c4", "-,b4,c5,b4,a4", "1.2:weak=11");
        only(8, "4", "c4,c4", "g4,f4,e4", "1.2:weak=5");
        only(8, "1", "c4,c4", "f4,b4", "");
    }

    private static void parallel() {
        only(9, "1", "c4,d4,c4", "g4,a4,e4", "2.1:parallel=5");
        only(9, "1", "c4,d4,c4", "c5,d5,c5", "2.1:parallel=8 3.1:parallel=8");
        only(9, "1", "c4,d4", "c5,d4", "2.1:parallel=8");
        only(9, "1", "c4,d4", "g5,a4", "2.1:parallel=5");
        only(9, "1", "c4,c4", "c5,c4", "");
        only(9, "1", "c4,c3", "c5,c5", "");
        only(9, "1", "c4,f4", "g4,f5", "");
        only(9, "1", "c4,d4", "e4,f4", "");
        only(9, "1b", "c4,d4", "f3,g3", "2.1:parallel=5");
        only(9, "2", "c4,d4", "g4,e4,a4", "2.1:parallel=5");
        only(9, "2", "c4,d4", "e4,g4,a4", "2.1:parallel=5");
        only(9, "3", "c4,d4", "e4,g4,c5,e4,a4", "");
        only(9, "3", "c4,d4", "-,g4,c5,e4,a4", "");
        only(9, "2", "c4,d4,e4", "e4,f4,a4,a4,e5", "");
        only(9, "2", "c4,d4,e4", "e4,f4,g4,a4,b4", "3.1:parallel=5");
        only(9, "2", "c4,d4,e4", "e4,f4,d5,b4,e5", "3.1:parallel=8");
    }

    private static void direct() {
        only(10, "1", "c4,d4", "e4,a4", "2.1:direct=5");
        only(10, "1", "c4,g4", "c5,d5", "");
        only(10, "1", "d4,c4", "a4,c4", "2.1:direct=8");
        only(10, "1", "c4,d4", "e5,a4", "");
        only(10, "1", "c4,c4", "e4,g4", "");
        only(10, "1", "c5,d5", "e4,g4", "");
        only(10, "1", "c5,f5", "e4,f4", "2.1:direct=8");
        only(10, "1", "c4,d4", "b3,d4", "2.1:direct=8");
        only(10, "1", "b3,d4", "c4,d4", "");
        only(10, "1", "c4,f4", "c5,f5", "");
        only(10, "1", "c4,f4", "g4,f5", "2.1:direct=8");
        only(10, "1", "c4,d4", "e4,b4", "");
        only(10, "2", "c4,d4", "g4,e4,a4", "2.1:direct=5");
        only(10, "2", "c4,d4", "e4,g4,a4", "");
        only(10, "2", "c4,d4", "g4,b4,a4", "");
        only(10, "2", "c4,d4", "-,e4,a4", "2.1:direct=5");
    }

    private static void unison() {
        only(11, "1", "c4,d4,c4", "c4,d4,c4", "2.1:unison=0");
        only(11, "1", "c4,c4,c4", "c4,b#3,c4", "2.1:unison=0");
        only(11, "1", "c4,c4,c4", "c4,c5,c4", "");
        only(11, "2", "c4,e4,c4", "c5,b4,g4,e4,c5", "");
        only(11, "2", "c4,e4,c4", "c5,b4,e4,g4,c5", "2.1:unison=0");
    }

    private static void cross() {
        only(12, "1", "c4,d4,e4", "b3,d4,f4", "1.1:cross=1");
        only(12, "1b", "c4,d4,e4", "b3,d4,f4", "3.1:cross=1");
        only(12, "1", "c4,c4", "b#3,cb4", "2.1:cross=1");
        only(12, "2b", "c4,c4", "-,d5,c3", "1.2:cross=14");
    }

    private static void space() {
        only(13, "1", "c4,c4,c4", "e5,f5,g2", "2.1:space=17 3.1:space=17");
        only(13, "2", "c4,c4", "-,b6,c4", "1.2:space=35");
        CounterpointChecker x = Check.withLines(1, "c4,c4", "c6,c#6");
        x.set(2, 24);
        CHECK.due("the greatest width is allowed", 1, () -> x.faults(13));
        x.set(2, 23);
        CHECK.due("the next one is not", 2, () -> x.faults(13));
    }

    private static void begin() {
        only(14, "1", "c4,c4", "e4,e4", "1.1:begin=4");
        only(14, "1", "c4,c4", "g4,e4", "");
        only(14, "1", "c4,c4", "c5,e4", "");
        only(14, "1b", "g4,c4", "c4,e4", "1.1:begin=7");
        only(14, "1b", "g4,c4", "g3,e4", "");
        only(14, "1b", "g4,c4", "e4,e4", "1.1:begin=3");
        only(14, "2", "c4,c4", "-,e5,e5", "1.2:begin=16");
        only(14, "2", "c4,c4", "-,g5,e5", "");
        only(14, "2", "c4,c4", "g4,e5,e5", "");
    }

    private static void cadence() {
        only(15, "1", "d4,c4", "b4,g4", "2.1:cadence=1");
        only(15, "1", "d4,c4", "a4,c5", "2.1:cadence=2");
        only(15, "1", "d4,c4", "c5,c5", "2.1:cadence=2");
        only(15, "1", "d4,c4", "d5,c5", "2.1:cadence=3");
        only(15, "1", "e4,c4", "b4,c5", "2.1:cadence=3");
        only(15, "1", "c4,c4", "b4,c5", "2.1:cadence=3");
        only(15, "1", "d4,c4", "bb4,c5", "2.1:cadence=4");
        only(15, "1", "d4,c4", "b4,c5", "");
        only(15, "1", "d4,c4", "b3,c4", "");
        only(15, "1", "b3,c4", "d5,c5", "");
        only(15, "1", "bb3,c4", "d5,c5", "2.1:cadence=4");
        only(15, "1", "b3,c4", "db5,c5", "");
        only(15, "3", "d4,c4", "-,f4,a4,b4,c5", "");
        only(15, "1", "d4,c4,d4", "b4,c5,a4", "3.1:cadence=1");
    }

    private static void suspend() {
        only(16, "4", "d4,c4,c4", "-,b4,b4,a4,c5", "");
        only(16, "4", "d4,c4,c4", "-,b4,b4,ab4,c5", "");
        only(16, "4", "d4,c4,c4", "-,b4,b4,c5,c5", "2.1:suspend=11");
        only(16, "4", "d4,c4,c4", "-,b4,b4,g4,c5", "2.1:suspend=11");
        only(16, "4", "d4,c4,c4", "-,b4,b4,a#4,c5", "2.1:suspend=11");
        only(16, "4", "d4,c4,c4", "-,b4,b4,b4,c5", "2.1:suspend=11");
        only(16, "4", "d4,c4,c4", "-,a4,b4,c5,c5", "");
        only(16, "4", "d4,d4,c4", "-,b4,b4,c5,c5", "");
        only(16, "4", "d4,c4", "-,b4,b4", "2.1:suspend=11");
        only(16, "4", "d4,c4", "-,c5,c5", "");
        only(16, "2", "d4,c4,c4", "-,b4,b4,c5,c5", "");
    }

    private static void setWeight() {
        CounterpointChecker x = new CounterpointChecker();
        for (int rule = 1; rule <= 16; rule++) {
            int asked = rule;
            CHECK.due("weight(" + rule + ") at first", 1, () -> x.weight(asked));
            CHECK.due("setWeight of rule " + rule, 1, () -> x.setWeight(asked, asked % 10));
            CHECK.due("weight(" + rule + ")", rule % 10, () -> x.weight(asked));
        }
        CHECK.due("the sum of all weights", 66, () -> x.count(7));
        CHECK.refused("setWeight of rule 0", INDEX, () -> x.setWeight(0, 1));
        CHECK.refused("setWeight of rule 17", INDEX, () -> x.setWeight(17, 10));
        CHECK.refused("setWeight to 10", ARGUMENT, () -> x.setWeight(16, 10));
        CHECK.refused("setWeight to -1", ARGUMENT, () -> x.setWeight(1, -1));
        CHECK.refused("weight(0)", INDEX, () -> x.weight(0));
        CHECK.refused("weight(17)", INDEX, () -> x.weight(17));
        CHECK.refused("weight(-1)", INDEX, () -> x.weight(-1));
        CHECK.due("setWeight to 9", 6, () -> x.setWeight(16, 9));
        CHECK.due("setWeight to 0", 9, () -> x.setWeight(16, 0));
        CHECK.due("the sum then", 60, () -> x.count(7));
    }

    private static void weights() {
        CounterpointChecker x = new CounterpointChecker();
        for (int rule = 1; rule <= 16; rule++) {
            int asked = rule;
            CHECK.due("weights of " + NAMES[rule], 1, () -> Check.type(x, NAMES[asked] + "=7").weights());
            CHECK.due("weight(" + rule + ")", 7, () -> x.weight(asked));
            CHECK.due("the sum", 16 + 6 * rule, () -> x.count(7));
        }
        CHECK.due("names again", 4, () -> Check.type(x, "leap=3,weak=0,leap=9,leap=4").weights());
        CHECK.due("the last one counts", 4, () -> x.weight(2));
        CHECK.due("the other one", 0, () -> x.weight(8));
        CHECK.due("a change each", 6, () -> x.count(9));
        CHECK.due("the buffer after weights", 0, () -> x.count(8));
        CHECK.due("errorPosition after weights", -1, x::errorPosition);
        String many = "leap=1,weak=2,leap=1,weak=2,leap=1,weak=2,leap=1,weak=2,leap=1,weak=2,leap=1,weak=2,leap=1,"
            + "weak=2,leap=1,weak=2,leap=1,weak=2,leap=1,weak=2,leap=1,weak=2,leap=1,weak=2,range=8";
        CHECK.due("many names", 25, () -> Check.type(x, many).weights());
        CHECK.due("the last of many", 8, () -> x.weight(1));
    }

    private static void weightErrors() {
        String[] texts = {"", "=", "range", "range=", "range=1,", "range=x", "range=12", "range=1,r", "range=1,rangex=2",
            "rang=1", "rangex", "Range=1", "rAnge=1", "range-1", "range=1;leap=2", "range=1,,leap=2", ",range=1",
            "range=1,leap", "range=1,leap=", "range1", "leap=1,weak=2,unisom=3", "range=-1", "range=1leap=2", "range==1",
            "range=:", "range=/", "leapa=1", "leapz=1", "leap`=1", "leap{=1"};
        int[] places = {0, 0, 5, 6, 8, 6, 7, 8, 8,
            0, 0, 0, 0, 5, 7, 8, 0,
            12, 13, 5, 14, 6, 7, 6,
            6, 6, 0, 0, 4, 4};
        CounterpointChecker x = new CounterpointChecker();
        for (int i = 0; i < texts.length; i++) {
            String text = texts[i];
            CHECK.refused("weights of '" + text + "'", ARGUMENT, () -> Check.type(x, text).weights());
            CHECK.due("errorPosition of '" + text + "'", places[i], x::errorPosition);
            CHECK.due("the buffer after '" + text + "'", 0, () -> x.count(8));
            CHECK.due("the weights after '" + text + "'", 16, () -> x.count(7));
        }
        CHECK.refused("weights that set some", ARGUMENT, () -> Check.type(x, "range=5,leap=6,?").weights());
        CHECK.due("no weight changes", 16, () -> x.count(7));
        CHECK.due("and no change counts", 0, () -> x.count(9));
    }

    /** Many rules at once, ordered by bars, beats and rules. */
    private static void faultOrder() {
        CounterpointChecker x = Check.withLines(2, "c4,d4,c4", "e4,b4,b4,c5,c5");
        String want = "1.1:begin=4 1.2:weak=11 2.1:recover=4 2.1:repeat=0 2.2:weak=10 3.1:repeat=0 3.1:climax=2"
            + " 3.1:cadence=2";
        CHECK.dueText("all faults", want, Check.faultsOf(x));
        int[] rules = {14, 8, 3, 4, 8, 4, 6, 15};
        int[] bars = {0, 0, 1, 1, 1, 2, 2, 2};
        int[] beats = {0, 1, 0, 0, 1, 0, 0, 0};
        int[] details = {4, 11, 4, 0, 10, 0, 2, 2};
        for (int i = 0; i < rules.length; i++) {
            int at = i;
            CHECK.due("the rule of fault " + i, rules[i], () -> x.fault(at, 0));
            CHECK.due("the bar of fault " + i, bars[i], () -> x.fault(at, 1));
            CHECK.due("the beat of fault " + i, beats[i], () -> x.fault(at, 2));
            CHECK.due("the detail of fault " + i, details[i], () -> x.fault(at, 3));
        }
        String late = "c4,c4,c4,c4,c4,c4,c4,c4,c4,c4,c4,c4";
        CounterpointChecker y = Check.withLines(1, late, late);
        CHECK.dueText("the last fault", "12.1:cadence=2", Check.explained(y, y.faults(0) - 1));
        CHECK.due("the number of faults", 11 + 10 + 1 + 1, () -> y.faults(0));
    }

    private static void faultErrors() {
        CounterpointChecker none = Check.withCantus("d4,c4");
        CHECK.refused("fault without a counterpoint", STATE, () -> none.fault(0, 9));
        CHECK.refused("explain without a counterpoint", STATE, () -> none.explain(0, 99));
        CounterpointChecker x = Check.withLines(1, "d4,c4", "b4,b4");
        CHECK.due("the number of faults", 5, () -> x.faults(0));
        CHECK.refused("fault(5, 0)", ELEMENT, () -> x.fault(5, 0));
        CHECK.refused("fault(5, 9)", ELEMENT, () -> x.fault(5, 9));
        CHECK.refused("fault(-1, 0)", ELEMENT, () -> x.fault(-1, 0));
        CHECK.refused("fault(4, 4)", ARGUMENT, () -> x.fault(4, 4));
        CHECK.refused("fault(4, -1)", ARGUMENT, () -> x.fault(4, -1));
        CHECK.dueText("explain(0)", "1.1:begin=9", Check.explained(x, 0));
        CHECK.due("the length", 11, () -> x.explain(0, -1));
        CHECK.refused("explain behind the end", INDEX, () -> x.explain(0, 11));
        CHECK.refused("explain at -2", INDEX, () -> x.explain(0, -2));
        CHECK.refused("explain(5, -1)", ELEMENT, () -> x.explain(5, -1));
        CHECK.refused("explain(-1, 99)", ELEMENT, () -> x.explain(-1, 99));
    }

    private static void counts() {
        CounterpointChecker none = Check.withCantus("d4,c4");
        CHECK.refused("faults without a counterpoint", STATE, () -> none.faults(99));
        CHECK.refused("faultsIn without a counterpoint", STATE, () -> none.faultsIn(99));
        CounterpointChecker x = Check.withLines(2, "c4,d4,c4", "e4,b4,b4,c5,c5");
        int[] byRule = {8, 0, 0, 1, 2, 0, 1, 0, 2, 0, 0, 0, 0, 0, 1, 1, 0};
        for (int rule = 0; rule <= 16; rule++) {
            int asked = rule;
            CHECK.due("faults(" + rule + ")", byRule[rule], () -> x.faults(asked));
        }
        CHECK.refused("faults(17)", INDEX, () -> x.faults(17));
        CHECK.refused("faults(-1)", INDEX, () -> x.faults(-1));
        CHECK.due("faultsIn(0)", 2, () -> x.faultsIn(0));
        CHECK.due("faultsIn(1)", 3, () -> x.faultsIn(1));
        CHECK.due("faultsIn(2)", 3, () -> x.faultsIn(2));
        CHECK.refused("faultsIn(3)", INDEX, () -> x.faultsIn(3));
        CHECK.refused("faultsIn(-1)", INDEX, () -> x.faultsIn(-1));
        x.setWeight(4, 0);
        CHECK.due("faults(4) with weight 0", 0, () -> x.faults(4));
        CHECK.due("faults(0) then", 6, () -> x.faults(0));
        CHECK.due("faultsIn(1) then", 2, () -> x.faultsIn(1));
    }

    private static void cost() {
        CounterpointChecker none = Check.withCantus("d4,c4");
        CHECK.refused("cost without a counterpoint", STATE, none::cost);
        CounterpointChecker x = Check.withLines(2, "c4,d4,c4", "e4,b4,b4,c5,c5");
        CHECK.due("the cost", 8, x::cost);
        x.setWeight(4, 5);
        CHECK.due("the cost with repeat=5", 16, x::cost);
        x.setWeight(8, 9);
        CHECK.due("the cost with weak=9", 32, x::cost);
        x.setWeight(14, 0);
        CHECK.due("the cost with begin=0", 31, x::cost);
        CHECK.due("the number of faults", 7, () -> x.faults(0));

        CounterpointChecker y = Check.withLines(4, "d4,c4", "-,b6,b6");
        CHECK.dueText("the faults of the first and the last rule", "1.2:range=83 1.2:space=33 1.2:begin=33 2.1:range=83"
            + " 2.1:space=35 2.1:cadence=1 2.1:suspend=35", Check.faultsOf(y));
        CHECK.due("their cost", 7, y::cost);
        y.setWeight(1, 3);
        y.setWeight(16, 9);
        CHECK.due("their cost with other weights", 19, y::cost);
    }
}
