/** The sixteen rules, their weights and the cost: both sides of every boundary that the document names. */
public final class RuleEdgesTest {
    private static final Check CHECK = new Check();
    private static final Script SAY = new Script(CHECK);

    public static void main(String[] args) {
        range();
        leap();
        recover();
        repeat();
        outline();
        climax();
        strong();
        weak();
        parallel();
        direct();
        unison();
        cross();
        space();
        begin();
        cadence();
        suspend();
        oneFaultForEachNote();
        restsHaveNone();
        weights();
        order();
        CHECK.end();
    }

    /** The faults of one rule alone in a line; b behind the species stands for the position below. */
    private static void only(int rule, String words, String species, String cantus, String counterpoint, String want) {
        SAY.sentence(words + " | " + cantus + " with " + counterpoint, "cantus " + cantus,
            "setSpecies " + species.charAt(0), "setPosition " + species.endsWith("b"), "counterpoint " + counterpoint,
            "only " + rule, "found -> " + want, "setWeight " + rule + " 0", "found -> ");
    }

    private static void range() {
        String words = "range: the pitch is less than the lowest or greater than the highest one allowed; the pitch";
        only(1, words, "1", "c4,c4,c4,c4", "b2,c3,c6,c#6", "1.1:range=35 4.1:range=73");
        only(1, words, "1", "c4,c4,c4,c4", "b#2,cb3,b#5,c6", "2.1:range=35");
        only(1, words, "1", "c4,c4", "cb2,b#6", "1.1:range=23 2.1:range=84");
        SAY.sentence(words, "cantus c4,c4", "counterpoint cb2,b#6", "set 1 84", "set 0 24", "faults 1 -> 1",
            "fault 0 0 -> 1", "fault 0 3 -> 23", "set 0 84", "set 1 84", "faults 1 -> 1", "set 0 83", "faults 1 -> 1",
            "setNote 0 0 145", "faults 1 -> 0", "set 1 83", "faults 1 -> 1");
    }

    private static void leap() {
        String words = "leap: 5 and 8 upward";
        only(2, words, "1", "c4,c4", "c4,ab4", "");
        only(2, words, "1", "c4,c4", "ab4,c4", "2.1:leap=8");
        only(2, words, "1", "c4,c4", "c4,g#4", "2.1:leap=8");
        only(2, "leap: the first note has no move to it", "1", "c4,c4", "b6,b6", "");
        only(2, "leap: from bar to bar", "2", "c4,c4,c4", "c5,d5,b5,c6,d5", "2.1:leap=9 3.1:leap=10");
    }

    private static void recover() {
        String words = "recover: at least 4 steps";
        only(3, words, "1", "c4,c4,c4", "c4,f4,g4", "");
        only(3, words, "1", "c4,c4,c4", "c4,f#4,g4", "");
        only(3, words, "1", "c4,c4,c4", "c4,gb4,ab4", "3.1:recover=4");
        only(3, words, "1", "c4,c4,c4", "g4,c4,b3", "3.1:recover=4");
        only(3, words, "1", "c4,c4,c4", "c2,b6,b5", "3.1:recover=34");
        words = "recover: not a step in the other direction";
        only(3, words, "1", "c4,c4,c4", "c4,g4,f4", "");
        only(3, words, "1", "c4,c4,c4", "c4,g4,f#4", "");
        only(3, words, "1", "c4,c4,c4", "c4,g#4,fb4", "");
        only(3, words, "1", "c4,c4,c4", "c4,g4,e4", "3.1:recover=4");
        only(3, words, "1", "c4,c4,c4", "c4,g4,g4", "3.1:recover=4");
        only(3, words, "1", "c4,c4,c4", "c4,g4,gb4", "3.1:recover=4");
        only(3, words, "1", "c4,c4,c4", "c4,g4,ab4", "3.1:recover=4");
        only(3, words, "1", "c4,c4,c4", "g4,c4,db4", "");
        only(3, words, "1", "c4,c4,c4", "f4,c5,b#4", "3.1:recover=4");
        only(3, "recover: no note behind the leap", "1", "c4,c4", "c4,g4", "");
        only(3, "recover: the leap from bar to bar, its note behind it", "2", "c4,c4,c4", "c5,c5,g5,a5,g5",
            "2.2:recover=4");
    }

    private static void repeat() {
        String words = "repeat: the note is equal to the one before it, and is not tied; 0";
        only(4, words, "1", "c4,c4,c4", "c5,c5,b#4", "2.1:repeat=0");
        only(4, words, "3", "c4,c4", "c5,c5,c5,c5,c5", "1.2:repeat=0 1.3:repeat=0 1.4:repeat=0 2.1:repeat=0");
        only(4, words, "2", "c4,c4", "-,c5,c5", "2.1:repeat=0");
        only(4, words, "4", "c4,c4,c4", "c5,c5,c5,b4,b4", "1.2:repeat=0");
        only(4, words, "4", "c4,c4,c4", "-,c5,c5,c5,c5", "2.2:repeat=0");
        only(4, words, "4", "c4,c4", "-,c5,b#4", "");
    }

    private static void outline() {
        String words = "outline: the sum of their steps is 6 or greater than 7";
        only(5, words, "1", "c4,c4,c4", "c4,e4,a4", "");
        only(5, words, "1", "c4,c4,c4", "c4,e4,b4", "3.1:outline=6");
        only(5, words, "1", "c4,c4,c4", "c4,f4,c5", "");
        only(5, words, "1", "c4,c4,c4", "c4,g4,d5", "3.1:outline=8");
        only(5, words, "1", "c4,c4,c4", "c2,b4,b6", "3.1:outline=34");
        only(5, words, "1", "c4,c4,c4", "b4,e4,c4", "3.1:outline=6");
        words = "outline: leaps in the same direction";
        only(5, words, "1", "c4,c4,c4", "c4,d4,b4", "");
        only(5, words, "1", "c4,c4,c4", "c4,a4,b4", "");
        only(5, words, "1", "c4,c4,c4", "c4,f4,c4", "");
        only(5, words, "1", "c4,c4,c4", "c4,b4,d4", "");
        only(5, words, "1", "c4,c4,c4", "c4,b4,b#4", "");
        only(5, words, "1", "c4,c4", "c4,b4", "");
        only(5, words, "2", "c4,c4", "-,c4,b5", "");
        only(5, "outline: the last two moves alone", "1", "c4,c4,c4,c4", "c4,e4,g4,b4", "");
    }

    private static void climax() {
        String words = "climax: the greatest pitch of the line, another note before it has the same pitch";
        only(6, words, "1", "c4,c4,c4,c4", "d4,e4,d4,c4", "");
        only(6, words, "1", "c4,c4,c4,c4", "d4,e4,d4,e4", "4.1:climax=2");
        only(6, words, "1", "c4,c4,c4,c4", "g4,e4,d4,e4", "");
        only(6, words, "1", "c4,c4,c4,c4", "d4,e4,e4,g4", "");
        only(6, words, "1", "c4,c4", "e4,e4", "2.1:climax=2");
        only(6, words + ", whatever its code", "1", "c4,c4,c4,c4", "e4,d4,fb4,d4", "3.1:climax=2");
        only(6, words + ", not its step", "1", "c4,c4,c4,c4", "e4,d4,e#4,eb4", "");
        words = "climax: only the first such note has a fault; the number of notes with this pitch that are not tied";
        only(6, words, "1", "c4,c4,c4,c4", "e4,e4,e4,e4", "2.1:climax=4");
        only(6, words, "3", "c4,c4,c4", "-,e4,d4,c4,e4,c4,e4,c4,e4", "2.1:climax=4");
        only(6, words, "4", "c4,c4,c4", "-,e5,e5,d5,d5", "");
        only(6, words, "4", "c4,c4,c4", "-,e5,e5,e5,e5", "2.2:climax=2");
        only(6, words, "4", "c4,c4,c4", "e5,e5,e5,e5,e5", "1.2:climax=3");
        SAY.sentence("climax: of the line as it is now, whatever call is the first to ask",
            "cantus c4,c4,c4", "counterpoint d4,e4,d4", "only 6", "setNote 2 0 91 -> 88", "fault 0 3 -> 2", "undo",
            "fault 0 0 -> ELEMENT", "setNote 2 0 91 -> 88", "explain 0 -1 -> 12", "undo", "explain 0 -1 -> ELEMENT",
            "setNote 2 0 91", "cost -> 1", "undo", "cost -> 0", "setNote 2 0 91", "faultsIn 2 -> 1", "undo",
            "faultsIn 2 -> 0", "costWith 2 0 91 -> 1", "costWith 2 0 88 -> 0", "fault 0 0 -> ELEMENT");
    }

    private static void strong() {
        String words = "strong: the beat is 0, in the first bar and the last one, too";
        only(7, words, "1", "c4,c4,c4", "f4,d4,b4", "1.1:strong=5 2.1:strong=2 3.1:strong=11");
        only(7, words, "2", "c4,c4,c4", "b4,b4,b4,b4,b4", "1.1:strong=11 2.1:strong=11 3.1:strong=11");
        only(7, words, "3", "c4,c4", "c5,b4,b4,b4,c5", "");
        words = "strong: and the note is not tied";
        only(7, words, "4", "c4,d4,c4", "-,c5,c5,d5,d5", "");
        only(7, words, "4", "c4,d4,c4", "-,c5,b#4,d5,d5", "2.1:strong=10");
        only(7, words, "4", "c4,d4,c4", "b4,b4,c5,c5,d5", "1.1:strong=11 2.1:strong=10 3.1:strong=14");
        only(7, words, "2", "c4,d4", "c5,c5,c5", "2.1:strong=10");
    }

    private static void weak() {
        String words = "weak: the beat is not 0";
        only(8, words, "3", "c4,c4", "b4,b4,c5,b3,b4", "1.2:weak=11 1.4:weak=1");
        only(8, words, "1", "c4,c4", "b4,b4", "");
        words = "weak: in species 2 and 3, not if the moves are steps in the same direction";
        only(8, words, "2", "c4,c4", "c5,b4,a4", "");
        only(8, words, "2", "c4,c4", "a4,b4,c5", "");
        only(8, words, "2", "c4,c4", "a4,b4,d5", "1.2:weak=11");
        only(8, words, "2", "c4,c4", "g4,b4,c5", "1.2:weak=11");
        only(8, words, "2", "c4,c4", "c5,b4,c5", "1.2:weak=11");
        only(8, words, "2", "c4,c4", "bb4,b4,c5", "1.2:weak=11");
        only(8, words, "3", "c4,c4", "c5,b4,a4,b4,c5", "");
        only(8, words, "4", "c4,c4", "c5,b4,a4", "1.2:weak=11");
        only(8, words, "2", "c4,c4", "-,b4,a4", "1.2:weak=11");
        words = "weak: in species 3, not if they are steps and the notes before and behind it are equal";
        only(8, words, "3", "c4,c4", "c5,b4,c5,b4,c5", "");
        only(8, words, "3", "c4,c4", "c5,b4,c#5,b4,c#5", "1.2:weak=11");
        only(8, words, "3", "c4,c4", "g4,b4,g4,g4,g4", "1.2:weak=11");
        only(8, words, "3", "c4,c4", "b4,b4,b4,c5,b4", "1.2:weak=11 1.3:weak=11");
        only(8, words, "4", "c4,c4", "c5,b4,c5", "1.2:weak=11");
    }

    private static void parallel() {
        String words = "parallel: the interval of the note on beat 0 of the bar before, or of the last note of it";
        only(9, words, "1", "c4,d4", "g4,a4", "2.1:parallel=5");
        only(9, words, "2", "c4,d4", "g4,c5,a4", "2.1:parallel=5");
        only(9, words, "2", "c4,d4", "c5,g4,a4", "2.1:parallel=5");
        only(9, words, "3", "c4,d4", "g4,e4,c5,e4,a4", "2.1:parallel=5");
        only(9, words, "3", "c4,d4", "e4,g4,g4,e4,a4", "");
        only(9, words, "3", "c4,d4", "e4,e4,e4,g4,a4", "2.1:parallel=5");
        only(9, words, "1", "c4,e4,d4", "g4,c5,a4", "");
        only(9, words, "2", "c4,d4", "-,e4,a4", "");
        only(9, words, "2", "c4,d4,c4", "c5,e4,f4,a4,b4", "");
        words = "parallel: perfect with the same class";
        only(9, words, "1", "c4,d4", "c5,d6", "2.1:parallel=8");
        only(9, words, "1", "c4,d4", "c4,d5", "2.1:parallel=8");
        only(9, words, "1", "c4,d4", "c4,d4", "2.1:parallel=8");
        only(9, words, "1", "c4,d4", "g5,a4", "2.1:parallel=5");
        only(9, words, "1", "g4,d4", "g5,a4", "");
        only(9, words, "1", "c4,d4", "e4,f4", "");
        words = "parallel: this note has another pitch, and so has its cantus";
        only(9, words, "1", "c4,c4", "c5,c6", "");
        only(9, words, "1", "c4,c5", "c6,c6", "");
        only(9, words, "1", "b#3,c4", "b#4,c6", "");
        only(9, words, "1", "c4,b#4", "c6,b#5", "");
        only(9, words, "1", "c4,c5", "c6,c5", "2.1:parallel=8");
    }

    private static void direct() {
        String words = "direct: the moves of both lines from the last notes of the bar before go in the same direction";
        only(10, words, "1", "c4,d4", "e4,a4", "2.1:direct=5");
        only(10, words, "1", "d4,c4", "e5,c5", "2.1:direct=8");
        only(10, words, "1", "c4,d4", "c5,a4", "");
        only(10, words, "1", "c4,c4", "e4,g4", "");
        only(10, words, "1", "c4,f4", "c5,c5", "");
        only(10, words, "1", "b#3,c4", "e4,g4", "");
        only(10, words, "2", "c4,d4", "g4,e4,a4", "2.1:direct=5");
        only(10, words, "2", "c4,d4", "e4,b4,a4", "");
        only(10, words, "2", "c4,d4,e4", "e4,g4,a4,f4,b4", "3.1:direct=5");
        words = "direct: that of the line that is higher in this bar is a leap";
        only(10, words, "1", "c4,f4", "b4,c5", "");
        only(10, words, "1", "c5,f5", "a4,bb4", "2.1:direct=5");
        only(10, words, "1", "e5,f5", "f4,bb4", "");
        only(10, words, "1b", "c5,f5", "a4,bb4", "2.1:direct=5");
        words = "direct: or of the counterpoint if both have the same pitch";
        only(10, words, "1", "b3,c4", "a3,c4", "2.1:direct=8");
        only(10, words, "1", "a3,c4", "b3,c4", "");
        only(10, words, "1b", "b3,c4", "a3,c4", "2.1:direct=8");
        words = "direct: and rule 9, whatever its weight, does not hold because of this last note";
        only(10, words, "1", "c4,f4", "g4,c5", "");
        only(10, words, "1", "c4,f4,f4", "c5,f5,f5", "");
        only(10, words, "1", "f4,c4,f4", "f5,c5,f5", "");
        only(10, words, "2", "c4,f4", "g4,a4,c5", "2.1:direct=5");
        only(10, words, "2", "c4,f4", "e4,g4,c5", "");
        SAY.sentence(words, "cantus c4,f4", "setSpecies 2", "counterpoint g4,a4,c5", "only 10", "setWeight 9 1",
            "found -> 2.1:parallel=5 2.1:direct=5", "counterpoint e4,g4,c5", "found -> 2.1:parallel=5");
        only(10, "direct: the first bar has none before it", "1", "c4,c4", "g4,e4", "");
        only(10, "direct: on beat 0 alone", "2", "c4,d4", "e4,g4,f4", "");
    }

    private static void unison() {
        String words = "unison: the bar is neither the first nor the last of the cantus";
        only(11, words, "1", "c4,d4,e4,c4", "c4,d4,e4,c4", "2.1:unison=0 3.1:unison=0");
        only(11, words, "1", "c4,d4", "c4,d4", "");
        only(11, words, "1", "c4,d4,c4", "c4,d4,c4", "2.1:unison=0");
        words = "unison: the beat is 0, the width is 0";
        only(11, words, "2", "c4,d4,c4", "c5,c4,f4,d4,c5", "");
        only(11, words, "1", "c4,c4,c4", "c4,b#3,c4", "2.1:unison=0");
        only(11, words, "1", "c4,c4,c4", "c4,c#4,c4", "");
        only(11, words, "1", "c4,c4,c4", "c4,c5,c4", "");
    }

    private static void cross() {
        String words = "cross: with position 0, the note is lower than the cantus, with position 1, it is higher";
        only(12, words, "1", "c4,c4,c4", "cb4,b#3,c#4", "1.1:cross=1");
        only(12, words, "1b", "c4,c4,c4", "cb4,b#3,c#4", "3.1:cross=1");
        only(12, words, "2", "c4,c4", "-,c2,b3", "1.2:cross=24 2.1:cross=1");
        only(12, words, "2b", "c4,c4", "-,b6,c4", "1.2:cross=35");
    }

    private static void space() {
        String words = "space: the width is greater than the greatest one allowed";
        only(13, words, "1", "c4,c4,c4", "eb5,e5,f5", "3.1:space=17");
        only(13, words, "1", "c4,c4,c4", "a2,ab2,g2", "3.1:space=17");
        SAY.sentence(words, "cantus c3,c3,c3", "counterpoint c4,c6,c#6", "only 13", "found -> 2.1:space=36 3.1:space=37",
            "set 2 36", "found -> 3.1:space=37", "set 2 35", "faults 0 -> 2", "set 2 12", "faults 0 -> 2",
            "setNote 0 0 86 -> 85", "found -> 1.1:space=13 2.1:space=36 3.1:space=37");
    }

    private static void begin() {
        String words = "begin: the interval is not perfect";
        only(14, words, "1", "c4,c4", "c4,e4", "");
        only(14, words, "1", "c4,c4", "g4,e4", "");
        only(14, words, "1", "c4,c4", "g5,e4", "");
        only(14, words, "1", "c4,c4", "c6,e4", "");
        only(14, words, "1", "c4,c4", "gb4,e4", "1.1:begin=6");
        only(14, words, "1", "c4,c4", "b#3,e4", "1.1:begin=0");
        only(14, words, "1", "c4,c4", "f3,e4", "");
        words = "begin: or, with position 1, not perfect with class 8";
        only(14, words, "1b", "c4,c4", "c4,e4", "");
        only(14, words, "1b", "c4,c4", "f3,e4", "1.1:begin=7");
        only(14, words, "1b", "c4,c4", "c3,e4", "");
        only(14, words, "1b", "c4,c4", "e4,e4", "1.1:begin=4");
        words = "begin: the note is the first one that is no rest";
        only(14, words, "2", "c4,c4", "-,e4,e4", "1.2:begin=4");
        only(14, words, "3", "c4,c4", "-,g4,e4,e4,e4", "");
        only(14, words, "4", "c4,c4", "e4,e4,e4", "1.1:begin=4");
        only(14, words, "4", "c4,c4", "c4,e4,e4", "");
    }

    private static void cadence() {
        String words = "cadence: the note is the last one";
        only(15, words, "1", "d4,c4,d4", "b4,c5,d5", "3.1:cadence=3");
        only(15, words, "3", "d4,c4", "b4,a4,a4,b4,c5", "");
        only(15, words, "2", "d4,c4", "-,b4,c5", "");
        words = "cadence: the number of the first one that does not hold";
        only(15, words, "1", "c4,c4", "c4,g4", "2.1:cadence=1");
        only(15, words, "1", "d4,c4", "b4,b#4", "2.1:cadence=1");
        only(15, words, "1", "d4,c4", "c5,c5", "2.1:cadence=2");
        only(15, words, "1", "d4,c4", "a4,c5", "2.1:cadence=2");
        only(15, words, "1", "c4,c4", "b4,c5", "2.1:cadence=3");
        only(15, words, "1", "e4,c4", "b4,c5", "2.1:cadence=3");
        only(15, words, "1", "b3,c4", "b4,c5", "2.1:cadence=3");
        only(15, words, "1", "d4,c4", "bb4,c5", "2.1:cadence=4");
        only(15, words, "1", "bb3,c4", "d5,c5", "2.1:cadence=4");
        only(15, words, "1", "bb3,c4", "db5,c5", "2.1:cadence=4");
        only(15, words, "1", "b3,c4", "d5,c5", "");
        only(15, words, "1", "d4,c4", "b3,c4", "");
        only(15, words, "1", "db4,c4", "b4,c6", "2.1:cadence=2");
    }

    private static void suspend() {
        String words = "suspend: the note is tied and the interval is not consonant, and there is no next note";
        only(16, words, "4", "c4,d4", "-,c5,c5", "2.1:suspend=10");
        only(16, words, "4", "c4,e4", "-,c5,c5", "");
        words = "suspend: the step of the next note is not one less";
        only(16, words, "4", "c4,d4,d4", "-,c5,c5,b4,d5", "");
        only(16, words, "4", "c4,d4,d4", "-,c5,c5,c5,d5", "2.1:suspend=10");
        only(16, words, "4", "c4,d4,d4", "-,c5,c5,a4,d5", "2.1:suspend=10");
        only(16, words, "4", "c4,d4,d4", "-,c5,c5,d5,d5", "2.1:suspend=10");
        words = "suspend: the interval of the next note is not consonant";
        only(16, words, "4", "c4,d4,d4", "-,c5,c5,bb4,d5", "");
        only(16, words, "4", "c4,d4,d4", "-,c5,c5,b#4,d5", "2.1:suspend=10");
        only(16, words, "4", "c4,d4,d4", "-,c5,c5,b4,b4", "");
        only(16, "suspend: a note that is not tied", "4", "c4,d4,d4", "-,c5,b#4,c5,d5", "");
        only(16, "suspend: in the first bar", "4", "d4,c4,c4", "c5,c5,c5,c5,c5", "");
    }

    private static void oneFaultForEachNote() {
        SAY.sentence("Each rule finds at most one fault for each note: two parallels are one",
            "cantus c4,d4", "setSpecies 2", "counterpoint g4,g4,a4", "only 9", "found -> 2.1:parallel=5",
            "faults 9 -> 1", "cost -> 1");
        SAY.sentence("and two conditions that fail are one",
            "cantus c4,d4", "setSpecies 4", "counterpoint -,c5,c5", "only 16", "faults 0 -> 1", "only 15",
            "found -> 2.1:cadence=1");
    }

    private static void restsHaveNone() {
        for (int species = 2; species <= 4; species++) {
            int notes = species == 3 ? 4 : 2;
            SAY.sentence("Rests have no faults", "cantus c4,c4", "setSpecies " + species, "set 0 72", "setPosition true",
                "counterpoint -," + Script.row(notes, "c6"), "fault 0 1 -> 0", "fault 0 2 -> 1", "fault 0 0 -> 12",
                "set 1 84", "set 0 73", "fault 0 0 -> 1", "fault 0 2 -> 1");
        }
    }

    private static void weights() {
        for (int rule = 1; rule <= 16; rule++) {
            SAY.sentence("Each rule has a weight from 0 to 9, at first 1",
                "weight " + rule + " -> 1", "setWeight " + rule + " 9 -> 1", "setWeight " + rule + " 10 -> ARGUMENT",
                "setWeight " + rule + " -1 -> ARGUMENT", "weight " + rule + " -> 9", "setWeight " + rule + " 0 -> 9",
                "weight " + rule + " -> 0", "count 7 -> 15");
        }
        SAY.sentence("The cost of a counterpoint is the sum of the weights of the rules of all its faults",
            Script.joined("cantus d4,c4", "counterpoint b4,c5", "setWeight 14 9", "cost -> 9", "setWeight 14 0",
                "cost -> 0", "faults 0 -> 0", "counterpoint c4,c4", "found -> 1.1:strong=2 1.1:cross=2 2.1:repeat=0"
                + " 2.1:climax=2 2.1:cadence=2", "weights repeat=9,climax=9,strong=9,cross=9,cadence=9", "cost -> 45",
                "weights cross=0", "cost -> 36", "faults 0 -> 4"));
        SAY.sentence("of a longest line with all weights 9, nine for each fault",
            Script.joined("cantus " + Script.row(12, "c2"), "setSpecies 3", "counterpoint " + Script.row(45, "b#6"),
                "faults 1 -> 45", "faults 4 -> 44", "faults 6 -> 1", "faults 7 -> 12", "faults 8 -> 33",
                "faults 13 -> 45", "faults 14 -> 1", "faults 15 -> 1", "faults 0 -> 182", "cost -> 182",
                "fault 181 0 -> 15", "fault 181 1 -> 11", "fault 182 0 -> ELEMENT", "setWeight 1 9", "setWeight 4 9",
                "setWeight 6 9", "setWeight 7 9", "setWeight 8 9", "setWeight 13 9", "setWeight 14 9", "setWeight 15 9",
                "cost -> 1638"));
    }

    private static void order() {
        SAY.sentence("The faults are ordered by bars, for the same bar by beats, then by rules",
            "cantus c4,d4,c4", "setSpecies 2", "counterpoint c#5,c#5,d4,d4,e5",
            "found -> 1.1:strong=13 1.1:begin=13 1.2:repeat=0 1.2:weak=13 2.1:leap=11 2.1:unison=0 2.2:recover=6"
            + " 2.2:repeat=0 3.1:leap=14 3.1:cadence=1");
    }
}
