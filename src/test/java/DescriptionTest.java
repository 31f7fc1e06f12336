/** The chapter 'Description' of the document: the sentences that name a boundary, each with a script of its own. */
public final class DescriptionTest {
    private static final Check CHECK = new Check();
    private static final Script SAY = new Script(CHECK);
    private static final String TWELVE = "c4,d4,e4,f4,g4,a4,g4,f4,e4,d4,e4,c4";
    private static final int[] BEATS = {0, 1, 2, 4, 2};
    private static final int[] HEIGHTS = {0, 2, 4, 5, 7, 9, 11};

    public static void main(String[] args) {
        calls();
        notes();
        pitches();
        cantusLength();
        species();
        counterpointLength();
        rests();
        linesTogether();
        intervalsOfAllNotes();
        moves();
        movesBesideRests();
        ties();
        settings();
        candidates();
        trials();
        buffer();
        lineText();
        lineErrors();
        weightsText();
        weightsErrors();
        changes();
        whatIsNoChange();
        mostChanges();
        whatStays();
        CHECK.end();
    }

    private static void calls() {
        String[] lines = Script.joined("cantus d4,c4", "counterpoint b4,c5", Script.times(505, "setNote 1 0 106"));
        SAY.sentence("An object is used for at most 512 calls: the last one is undo", Script.joined(lines, "undo -> 5"));
        SAY.sentence("the last one is cost", Script.joined(lines, "cost -> 1"));
        SAY.sentence("the last one is better", Script.joined(lines, "better 1 0 -> 106"));
        SAY.sentence("the last one is search", Script.joined(lines, "search -> UNSUPPORTED"));
        SAY.sentence("the last one is refused", Script.joined(lines, "setNote 1 0 147 -> ARGUMENT"));
    }

    private static void notes() {
        SAY.sentence("A note has a letter from c, d, e, f, g, a, b, with the numbers 0 to 6",
            "cantus c4,d4,e4,f4,g4,a4,b4 -> 7", "note 0 -1 -> 85", "note 6 -1 -> 103", "noteOf 85 3 -> 0",
            "noteOf 88 3 -> 1", "noteOf 91 3 -> 2", "noteOf 94 3 -> 3", "noteOf 97 3 -> 4", "noteOf 100 3 -> 5",
            "noteOf 103 3 -> 6", "noteOf 106 3 -> 0", "cantus h4,c4 -> ARGUMENT", "errorPosition -> 0",
            "cantus `4,c4 -> ARGUMENT", "errorPosition -> 0", "cantus c4,C4 -> ARGUMENT", "errorPosition -> 3");
        SAY.sentence("an octave from 2",
            "cantus c2,b2 -> 2", "note 0 -1 -> 43", "noteOf 43 4 -> 2", "noteOf 63 4 -> 3", "cantus c2,c1 -> ARGUMENT",
            "errorPosition -> 4", "cantus b1,c2 -> ARGUMENT", "errorPosition -> 1", "cantus c0,c2 -> ARGUMENT",
            "errorPosition -> 1");
        SAY.sentence("to 6",
            "cantus c6,b6 -> 2", "note 1 -1 -> 145", "noteOf 127 4 -> 6", "noteOf 125 4 -> 5", "noteOf 146 4 -> 6",
            "cantus c6,c7 -> ARGUMENT", "errorPosition -> 4", "cantus c9,c6 -> ARGUMENT", "errorPosition -> 1");
        SAY.sentence("and an alteration, -1, 0 or 1",
            "cantus cb4,c4,c#4 -> 3", "note 0 -1 -> 84", "note 2 -1 -> 86", "noteOf 84 1 -> -1", "noteOf 85 1 -> 0",
            "noteOf 86 1 -> 1", "cantus cbb4,c4 -> ARGUMENT", "errorPosition -> 2", "cantus c##4,c4 -> ARGUMENT",
            "errorPosition -> 2", "cantus c#b4,c4 -> ARGUMENT", "errorPosition -> 2", "cantus cb#4,c4 -> ARGUMENT",
            "errorPosition -> 2");
        SAY.sentence("Two notes are equal if their codes are, not if their pitches are",
            "cantus c4,c4", "counterpoint c4,b#3", "faults 4 -> 0", "setNote 1 0 85 -> 83", "faults 4 -> 1");
        SAY.sentence("A note is higher than another one if its pitch is greater, not if its code is",
            "cantus fb4,c4", "counterpoint e#4,c4", "faults 12 -> 0", "setPosition true -> false", "faults 12 -> 1",
            "setNote 0 0 91 -> 92", "faults 12 -> 0", "setPosition false -> true", "faults 12 -> 0");
    }

    private static void pitches() {
        for (int code = 42; code <= 146; code++) {
            int step = code / 3;
            int pitch = 12 * (step / 7) + HEIGHTS[step % 7] + code % 3 - 1;
            SAY.sentence("Its pitch is 12 * octave + h + alteration, its code 3 * step + alteration + 1",
                "noteOf " + code + " 0 -> " + step, "noteOf " + code + " 2 -> " + pitch);
        }
        SAY.sentence("Pitches where an octave ends",
            "noteOf 42 2 -> 23", "noteOf 43 2 -> 24", "noteOf 61 2 -> 35", "noteOf 62 2 -> 36", "noteOf 63 2 -> 35",
            "noteOf 64 2 -> 36", "noteOf 145 2 -> 83", "noteOf 146 2 -> 84", "noteOf 41 2 -> INDEX",
            "noteOf 147 2 -> INDEX");
    }

    private static void cantusLength() {
        SAY.sentence("The cantus has 2 notes at least",
            "cantus c4 -> ARGUMENT", "errorPosition -> 2", "count 0 -> 0", "cantus c4,d4 -> 2", "count 0 -> 2",
            "cantus -> ARGUMENT", "errorPosition -> 0", "count 0 -> 2");
        SAY.sentence("to 12 notes",
            "cantus " + TWELVE + " -> 12", "count 0 -> 12", "cantus " + TWELVE + ",c4 -> ARGUMENT",
            "errorPosition -> 35", "count 0 -> 12", "cantus " + TWELVE.substring(3) + " -> 11");
        SAY.sentence("one for each bar; bars are numbered from 0",
            "cantus " + TWELVE, "note 0 -1 -> 85", "note 1 -1 -> 88", "note 11 -1 -> 85", "note 12 -1 -> INDEX",
            "note -1 -1 -> INDEX");
        SAY.sentence("There is a cantus or none", "count 0 -> 0", "note 0 -1 -> STATE", "text true -1 -> STATE",
            "cantus c4,d4", "note 0 -1 -> 85", "text true -1 -> 5", "undo", "note 0 -1 -> STATE");
    }

    private static void species() {
        SAY.sentence("The species s is from 1 to 4, at first 1",
            "count 2 -> 1", "setSpecies 0 -> ARGUMENT", "setSpecies 4 -> 1", "setSpecies 5 -> ARGUMENT", "count 2 -> 4",
            "setSpecies 3 -> 4", "setSpecies 2 -> 3", "setSpecies 1 -> 2", "setSpecies -1 -> ARGUMENT",
            "setSpecies LEAST -> ARGUMENT", "setSpecies MOST -> ARGUMENT", "count 2 -> 1");
    }

    private static void counterpointLength() {
        for (int species = 1; species <= 4; species++) {
            for (int bars = 2; bars <= 12; bars++) {
                int notes = (bars - 1) * BEATS[species] + 1;
                String place = bars - 2 + " " + (BEATS[species] - 1);
                SAY.sentence("The counterpoint has, in each bar but the last, 1, 2, 4 or 2 notes, and one in the last bar",
                    "cantus " + Script.row(bars, "c4"), "setSpecies " + species,
                    "counterpoint " + Script.row(notes - 1, "c5") + " -> ARGUMENT",
                    "errorPosition -> " + (3 * notes - 4), "count 1 -> 0",
                    "counterpoint " + Script.row(notes, "c5"), "count 1 -> " + notes,
                    "counterpoint " + Script.row(notes + 1, "c5") + " -> ARGUMENT",
                    "errorPosition -> " + (3 * notes - 1), "count 1 -> " + notes,
                    "note " + (bars - 1) + " 0 -> 106", "note " + (bars - 1) + " 1 -> INDEX",
                    "note " + bars + " 0 -> INDEX", "note " + place + " -> 106",
                    "note " + (bars - 2) + " " + BEATS[species] + " -> INDEX", "note -1 0 -> INDEX");
            }
        }
        SAY.sentence("the beats of a bar are numbered from 0",
            "cantus c4,c4", "setSpecies 3", "counterpoint c5,d5,e5,f5,g5", "note 0 0 -> 106", "note 0 1 -> 109",
            "note 0 3 -> 115", "note 0 4 -> INDEX", "note 0 -2 -> INDEX", "note 0 -1 -> 85", "note 1 0 -> 118");
    }

    private static void rests() {
        SAY.sentence("Except in species 1, its first note can be a rest: in species 1 it can not",
            "cantus c4,c4", "counterpoint -,c5 -> ARGUMENT", "errorPosition -> 0", "count 1 -> 0");
        for (int species = 2; species <= 4; species++) {
            int notes = BEATS[species] + 1;
            String behind = Script.row(notes - 1, "c5");
            SAY.sentence("in the others it can, and the others can not, the last one neither",
                "cantus c4,c4", "setSpecies " + species, "counterpoint -," + behind, "count 1 -> " + notes,
                "note 0 0 -> -1", "note 0 1 -> 106", "made -> -," + behind,
                "counterpoint -,-," + Script.row(notes - 2, "c5") + " -> ARGUMENT", "errorPosition -> 2",
                "counterpoint c5,-," + Script.row(notes - 2, "c5") + " -> ARGUMENT", "errorPosition -> 3",
                "counterpoint " + behind + ",- -> ARGUMENT", "errorPosition -> " + (behind.length() + 1),
                "made -> -," + behind);
        }
        SAY.sentence("the cantus has no rest",
            "setSpecies 2", "cantus -,c4 -> ARGUMENT", "errorPosition -> 0", "cantus c4,- -> ARGUMENT",
            "errorPosition -> 3", "count 0 -> 0");
    }

    private static void linesTogether() {
        SAY.sentence("there is no counterpoint without a cantus",
            "type c5,c5", "counterpoint -> STATE", "count 1 -> 0", "note 0 0 -> STATE", "cost -> STATE", "save",
            "cantus -> 2", "counterpoint b4,c5", "count 1 -> 2", "restore -> 0", "count 1 -> 0", "cost -> STATE",
            "note 0 0 -> STATE", "text false -1 -> STATE");
        SAY.sentence("a counterpoint or none: no call that asks for one answers without it",
            "cantus c4,c4", "setNote 0 0 85 -> STATE", "interval 0 0 0 -> STATE", "motion 0 -> STATE",
            "motions 0 -> STATE", "contraryBits -> STATE", "meanBits -> STATE", "fault 0 0 -> STATE",
            "explain 0 -1 -> STATE", "faults 0 -> STATE", "faultsIn 0 -> STATE", "cost -> STATE", "better 0 0 -> STATE",
            "costWith 0 0 85 -> STATE", "note 0 0 -> STATE", "text false -1 -> STATE", "count 1 -> 0");
        SAY.sentence("The position is 0, above, or 1, below; at first it is 0",
            "count 3 -> 0", "setPosition true -> false", "count 3 -> 1", "setPosition false -> true", "count 3 -> 0");
    }

    /** Both remainders of every interval that two notes can have, those that go round many times among them. */
    private static void intervalsOfAllNotes() {
        for (int given = 42; given <= 146; given++) {
            for (int code = 42; code <= 146; code++) {
                CounterpointChecker x = Check.withLines(1, spelled(given) + "," + spelled(given), "c4,c4");
                int steps = Math.abs(code / 3 - given / 3);
                int width = Math.abs(pitchOf(code) - pitchOf(given));
                String rests = steps % 7 + "/" + width % 12;
                int perfect = rests.equals("0/0") ? 8 : rests.equals("4/7") ? 5 : 0;
                boolean consonant = rests.equals("2/3") || rests.equals("2/4") || rests.equals("5/8")
                    || rests.equals("5/9");
                int sound = perfect > 0 ? 2 : consonant ? 1 : 0;
                int other = code;
                x.setNote(0, 0, code);
                String what = "the interval of " + spelled(given) + " and " + spelled(code) + ": ";
                CHECK.due(what + "steps", steps, () -> x.interval(0, 0, 0));
                CHECK.due(what + "width", width, () -> x.interval(0, 0, 1));
                CHECK.due(what + "perfect or consonant", sound, () -> x.interval(0, 0, 2));
                CHECK.due(what + "class", perfect, () -> x.interval(0, 0, 3));
            }
        }
        SAY.sentence("steps modulo 7 and width modulo 12 are 0 and 0: an octave, two, four; not 6 or 8 steps",
            "cantus c2,c2", "counterpoint c3,c4", "interval 0 0 3 -> 8", "interval 1 0 3 -> 8", "setNote 0 0 127",
            "interval 0 0 0 -> 28", "interval 0 0 1 -> 48", "interval 0 0 3 -> 8", "setNote 0 0 62",
            "interval 0 0 0 -> 6", "interval 0 0 1 -> 12", "interval 0 0 3 -> 0", "interval 0 0 2 -> 0");
    }

    private static String spelled(int code) {
        String sign = code % 3 == 0 ? "b" : code % 3 == 1 ? "" : "#";
        return "cdefgab".charAt(code / 3 % 7) + sign + code / 21;
    }

    private static int pitchOf(int code) {
        return 12 * (code / 21) + HEIGHTS[code / 3 % 7] + code % 3 - 1;
    }

    /** The moves from all notes to all notes, as the rule of the leap tells them. */
    private static void moves() {
        for (int from = 42; from <= 146; from++) {
            for (int to = 42; to <= 146; to++) {
                CounterpointChecker x = Check.withLines(1, "c4,c4", spelled(from) + "," + spelled(to));
                Script.outcome(x, "only 2");
                int steps = Math.abs(to / 3 - from / 3);
                int rise = pitchOf(to) - pitchOf(from);
                int width = Math.abs(rise);
                String shape = " " + steps + "/" + width + " ";
                boolean allowed = " 0/0 1/1 1/2 2/3 2/4 3/5 4/7 7/12 ".contains(shape) || shape.equals(" 5/8 ") && rise > 0;
                String what = "the move from " + spelled(from) + " to " + spelled(to);
                CHECK.due(what, allowed ? 0 : 1, () -> x.faults(0));
                if (!allowed) {
                    CHECK.due(what + ", its width", width, () -> x.fault(0, 3));
                }
            }
        }
        SAY.sentence("It is a step if the steps are 1, and a leap if they are greater than 1",
            "cantus c4,c4,c4", "counterpoint c4,a4,b4", "only 5", "found -> ", "counterpoint c4,g4,b4",
            "found -> 3.1:outline=6", "counterpoint c4,d4,b4", "found -> ", "counterpoint c4,c#4,b4", "found -> ");
        SAY.sentence("it goes up if the pitch becomes greater, down if it becomes less, whatever the steps do",
            "cantus c4,c4,c4", "counterpoint e4,b#4,cb5", "only 3", "found -> ", "counterpoint e4,b4,c5",
            "found -> 3.1:recover=4", "cantus c4,b#3", "counterpoint b#4,cb5", "motion 0 -> 1");
        SAY.sentence("with the width 0 it goes in no direction, and is no step in any direction",
            "cantus c4,c4,c4", "counterpoint f4,c5,b#4", "only 3", "found -> 3.1:recover=4", "counterpoint f4,c5,b4",
            "found -> ", "cantus c4,b#3", "counterpoint d5,c5", "motion 0 -> 1", "counterpoint c5,b#4", "motion 0 -> 0",
            "only 15", "found -> 2.1:cadence=3", "cantus b#3,c4", "counterpoint d5,c5", "found -> 2.1:cadence=3");
        SAY.sentence("and is no step in the same direction either, for passing notes",
            "cantus d4,c4", "setSpecies 2", "counterpoint b#4,c5,b4", "only 8", "found -> 1.2:weak=10",
            "counterpoint b4,c5,b#4", "found -> 1.2:weak=10", "counterpoint b4,c5,d5", "found -> ");
    }

    private static void movesBesideRests() {
        SAY.sentence("A move to or from a rest is none: no leap, and no leap of an outline",
            "cantus c4,c4", "setSpecies 3", "counterpoint -,b6,f6,c6,g5", "only 2", "found -> 1.3:leap=6",
            "only 5", "found -> 1.4:outline=6 2.1:outline=6", "only 3", "found -> ");
        SAY.sentence("what a rule says of such a move does not hold: no passing note behind a rest",
            "cantus c4,c4", "setSpecies 3", "counterpoint -,b4,a4,g4,f4", "only 8", "found -> 1.2:weak=11");
        SAY.sentence("and no direct motion from a rest, but from the note behind it",
            "cantus c4,d4", "setSpecies 2", "counterpoint -,e4,a4", "only 10", "found -> 2.1:direct=5");
        SAY.sentence("and no interval of a rest for parallels",
            "cantus c4,d4", "setSpecies 2", "counterpoint -,e4,a4", "only 9", "found -> ", "counterpoint g4,e4,a4",
            "found -> 2.1:parallel=5");
        SAY.sentence("a rest is not followed by the next note: no repeat of it",
            "cantus c4,c4", "setSpecies 4", "counterpoint -,c5,c5", "only 4", "found -> ", "interval 0 1 4 -> 0");
    }

    private static void ties() {
        SAY.sentence("In species 4, the note on beat 0 of a bar other than the first is tied if it equals the one before",
            "cantus c4,c4,c4", "setSpecies 4", "counterpoint c5,c5,c5,c5,c5", "interval 0 0 4 -> 0",
            "interval 0 1 4 -> 0", "interval 1 0 4 -> 1", "interval 1 1 4 -> 0", "interval 2 0 4 -> 1",
            "setNote 1 0 104", "interval 1 0 4 -> 0", "setNote 2 0 109", "interval 2 0 4 -> 0");
        for (int species = 1; species <= 3; species++) {
            SAY.sentence("in no other species", "cantus c4,c4", "setSpecies " + species,
                "counterpoint " + Script.row(BEATS[species] + 1, "c5"), "interval 1 0 4 -> 0", "only 4",
                "faults 4 -> " + BEATS[species]);
        }
    }

    private static void settings() {
        SAY.sentence("Settings. 0 the lowest pitch, 24 to 84, at first 36",
            "count 4 -> 36", "set 0 23 -> ARGUMENT", "set 0 24 -> 36", "set 0 25 -> 24", "set 1 84", "set 0 84 -> 25",
            "set 0 85 -> ARGUMENT", "set 0 LEAST -> ARGUMENT", "set 0 MOST -> ARGUMENT", "count 4 -> 84");
        SAY.sentence("1 the highest pitch, 24 to 84, at first 72",
            "count 5 -> 72", "set 1 85 -> ARGUMENT", "set 1 84 -> 72", "set 1 83 -> 84", "set 0 24", "set 1 24 -> 83",
            "set 1 23 -> ARGUMENT", "set 1 LEAST -> ARGUMENT", "set 1 MOST -> ARGUMENT", "count 5 -> 24");
        SAY.sentence("2 the greatest width, 12 to 36, at first 16",
            "count 6 -> 16", "set 2 11 -> ARGUMENT", "set 2 12 -> 16", "set 2 13 -> 12", "set 2 36 -> 13",
            "set 2 37 -> ARGUMENT", "set 2 LEAST -> ARGUMENT", "set 2 MOST -> ARGUMENT", "count 6 -> 36");
    }

    /** With all weights 0 every candidate fits, so that the first one of each bar makes the line. */
    private static void candidates() {
        String[] free = {"only 1", "setWeight 1 0"};
        SAY.sentence("The candidates for a bar are the notes with alteration 0, and, in the bar before the last, also 1",
            Script.joined(free, "cantus c4,c4,c4,c4", "search -> 4", "suggested 0 -> 64", "suggested 1 -> 64",
                "suggested 2 -> 62", "suggested 3 -> 64"));
        SAY.sentence("in a cantus of two notes that is the first bar",
            Script.joined(free, "cantus c4,c4", "search -> 2", "suggested 0 -> 62", "suggested 1 -> 64"));
        SAY.sentence("none with alteration -1: between d and e there is no note but in the bar before the last",
            Script.joined(free, "set 1 39", "set 0 39", "cantus c4,c4", "search -> UNSUPPORTED", "set 0 38", "set 1 39",
                "search -> 2", "suggested 0 -> 67", "suggested 1 -> 67", "cantus c4,c4,c4", "setWeight 4 1",
                "search -> 4", "suggested 0 -> 67", "suggested 1 -> 68", "suggested 2 -> 67"));
        SAY.sentence("whose pitches are from the lowest to the highest one allowed",
            Script.joined(free, "cantus d6,c6", "set 0 72", "set 1 72", "search -> 2", "suggested 0 -> 125",
                "suggested 1 -> 127", "set 0 71", "setWeight 15 1", "search -> 3", "suggested 0 -> 124",
                "suggested 1 -> 127", "set 1 71", "search -> UNSUPPORTED"));
        SAY.sentence("the lowest and the highest of all",
            Script.joined(free, "cantus c4,c4", "set 0 24", "search -> 2", "suggested 0 -> 43", "suggested 1 -> 43",
                "set 1 84", "set 0 83", "search -> 2", "suggested 0 -> 145", "suggested 1 -> 145", "set 0 84",
                "search -> UNSUPPORTED"));
        SAY.sentence("in ascending order of their codes",
            Script.joined(free, "cantus c4,c4,c4", "set 0 59", "set 1 60", "setWeight 4 1", "search -> 4",
                "suggested 0 -> 103", "suggested 1 -> 104", "suggested 2 -> 103"));
        SAY.sentence("A line is searched for in species 1", "cantus c4,c4", "setSpecies 2", "search -> STATE",
            "setSpecies 3", "search -> STATE", "setSpecies 4", "search -> STATE", "only 1", "setSpecies 1", "search -> 2");
    }

    private static void trials() {
        SAY.sentence("this note has no faults of rules other than 6 and 15: the climax may come again",
            "only 6", "cantus c4,c4,c4", "set 0 36", "set 1 36", "search -> UNSUPPORTED", "setWeight 6 0", "search -> 3");
        SAY.sentence("in the last bar, no note has a fault of any rule: 6 counts for earlier notes, too",
            "only 6", "cantus c4,c4,c4", "set 0 36", "set 1 38", "search -> 4", "suggested 0 -> 64", "suggested 1 -> 62",
            "suggested 2 -> 67");
        SAY.sentence("and 15 for the last one",
            "only 15", "cantus d4,c4", "set 0 59", "set 1 60", "search -> 3", "suggested 0 -> 103",
            "suggested 1 -> 106");
        SAY.sentence("a rule with the weight 0 finds no faults, in searching, too",
            "cantus d4,c4", "set 0 59", "set 1 60", "search -> UNSUPPORTED", "setWeight 14 0", "search -> 3",
            "setWeight 14 9", "search -> UNSUPPORTED");
        SAY.sentence("when there is no candidate left", "cantus d4,c4", "set 0 42", "set 1 42", "search -> UNSUPPORTED",
            "count 10 -> 0", "cantus c4,c4,c4", "search -> UNSUPPORTED", "count 10 -> 0");
        SAY.sentence("The search is given up when 3000 trials have been made without success",
            "cantus a3,b3,c4,d4,e4,a3,b3,a3", "set 0 30", "set 1 76", "search -> UNSUPPORTED", "count 10 -> 0");
        SAY.sentence("the trial with which it ends with a line counts, too",
            "cantus a3,b3,c4,d4,e4,a3,b3,a3", "set 0 34", "set 1 80", "search -> 3000", "count 10 -> 8", "adopt -> 0");
    }

    private static void buffer() {
        SAY.sentence("A buffer holds at most 180 characters",
            Script.joined(Script.times(44, "type c4,d"), "type c4, -> ", "count 8 -> 179", "append 0x2c2c -> STATE",
                "count 8 -> 179", "append 0x2c000000 -> 180", "append 0x2c -> STATE", "append 0 -> 180",
                "count 8 -> 180", "cantus -> ARGUMENT", "count 8 -> 0", "append 0x2c -> 1"));
        SAY.sentence("and a longest line is read from it, and told",
            "cantus " + Script.row(12, "c#4"), "setSpecies 3", "counterpoint " + Script.row(45, "bb4"), "count 1 -> 45",
            "text false -1 -> 179", "text false 178 -> 52", "text false 179 -> INDEX",
            "made -> " + Script.row(45, "bb4"), "counterpoint " + Script.row(45, "bb4") + ", -> ARGUMENT",
            "errorPosition -> 179", "counterpoint " + Script.row(44, "bb4") + ",b4,c -> ARGUMENT", "errorPosition -> 178",
            "counterpoint " + Script.row(44, "bb4") + ",bb -> ARGUMENT", "errorPosition -> 178");
        SAY.sentence("and longest weights",
            "weights " + Script.row(25, "leap=2") + ",weak -> ARGUMENT", "errorPosition -> 179",
            "weights " + Script.row(25, "leap=2") + ",weak= -> ARGUMENT", "errorPosition -> 180",
            "weights " + Script.row(25, "leap=2") + ",weakl -> ARGUMENT", "errorPosition -> 175", "weight 2 -> 1",
            "weights " + Script.row(24, "leap=2") + ",begin=7 -> 25", "weight 14 -> 7", "weight 2 -> 2",
            "weights " + Script.row(22, "range=3") + " -> 22", "weight 1 -> 3");
    }

    private static void lineText() {
        SAY.sentence("braces mean zero or more repetitions, brackets mean zero or one",
            "cantus c4,d4", "given -> c4,d4", "cantus cb2,b#6,bb3", "given -> cb2,b#6,bb3", "setSpecies 4",
            "counterpoint -,a4,a4,g#5,ab3", "made -> -,a4,a4,g#5,ab3");
        SAY.sentence("The sign # stands for the alteration 1, b behind the letter for -1",
            "cantus b4,bb4,b#4,fb4", "note 0 -1 -> 103", "note 1 -1 -> 102", "note 2 -1 -> 104", "note 3 -1 -> 93");
        SAY.sentence("- for a rest", "cantus c4,c4", "setSpecies 2", "counterpoint -,c4,c4", "note 0 0 -> -1",
            "text false 0 -> 45", "text false -1 -> 7");
    }

    private static void lineErrors() {
        String[] two = {"cantus c4,c4", "setSpecies 2"};
        SAY.sentence("the index of the first character that is not allowed",
            "cantus x -> ARGUMENT", "errorPosition -> 0", "cantus cx -> ARGUMENT", "errorPosition -> 1",
            "cantus c#x -> ARGUMENT", "errorPosition -> 2", "cantus c4x -> ARGUMENT", "errorPosition -> 2",
            "cantus c44 -> ARGUMENT", "errorPosition -> 2", "cantus c4,x -> ARGUMENT", "errorPosition -> 3",
            "cantus c4,,d4 -> ARGUMENT", "errorPosition -> 3", "cantus ,c4,d4 -> ARGUMENT", "errorPosition -> 0",
            "cantus c4d4 -> ARGUMENT", "errorPosition -> 2", "cantus c4,d4! -> ARGUMENT", "errorPosition -> 5",
            "cantus c4,d4~ -> ARGUMENT", "errorPosition -> 5", "cantus x,y -> ARGUMENT", "errorPosition -> 0");
        SAY.sentence("which is also a rest where none is possible",
            Script.joined(two, "counterpoint c4,-,c4 -> ARGUMENT", "errorPosition -> 3",
                "counterpoint -,c4,- -> ARGUMENT", "errorPosition -> 5", "counterpoint -- -> ARGUMENT",
                "errorPosition -> 1", "counterpoint -4,c4,c4 -> ARGUMENT", "errorPosition -> 1",
                "cantus -,c4 -> ARGUMENT", "errorPosition -> 0", "setSpecies 1", "counterpoint -,c4 -> ARGUMENT",
                "errorPosition -> 0"));
        SAY.sentence("and the comma before a note that would be one too many, whatever is behind it",
            Script.joined(two, "counterpoint -,c4,c4, -> ARGUMENT", "errorPosition -> 7",
                "counterpoint -,c4,c4,x -> ARGUMENT", "errorPosition -> 7", "counterpoint -,c4,c4,d4 -> ARGUMENT",
                "errorPosition -> 7", "counterpoint -,c4,c4,- -> ARGUMENT", "errorPosition -> 7",
                "counterpoint -,c4,c4,,, -> ARGUMENT", "errorPosition -> 7", "cantus " + TWELVE + ", -> ARGUMENT",
                "errorPosition -> 35", "cantus " + TWELVE + ",- -> ARGUMENT", "errorPosition -> 35",
                "cantus " + TWELVE + ",d4,e -> ARGUMENT", "errorPosition -> 35"));
        SAY.sentence("or the length of the text if it ends too early",
            "cantus -> ARGUMENT", "errorPosition -> 0", "cantus c -> ARGUMENT", "errorPosition -> 1",
            "cantus c# -> ARGUMENT", "errorPosition -> 2", "cantus bb -> ARGUMENT", "errorPosition -> 2",
            "cantus c4, -> ARGUMENT", "errorPosition -> 3", "cantus c4,d4, -> ARGUMENT", "errorPosition -> 6");
        SAY.sentence("also if there are too few notes",
            Script.joined("cantus c4 -> ARGUMENT", "errorPosition -> 2", "cantus c#4 -> ARGUMENT", "errorPosition -> 3",
                two, "counterpoint - -> ARGUMENT", "errorPosition -> 1", "counterpoint -,c4 -> ARGUMENT",
                "errorPosition -> 4", "counterpoint c4,c4 -> ARGUMENT", "errorPosition -> 5",
                "counterpoint -> ARGUMENT", "errorPosition -> 0"));
    }

    private static void weightsText() {
        SAY.sentence("where a name is that of a rule, and the digit is 0 to 9",
            "weights range=0 -> 1", "weight 1 -> 0", "weights range=9 -> 1", "weight 1 -> 9", "weights range=1 -> 1",
            "weight 1 -> 1", "weights suspend=9,range=0 -> 2", "weight 16 -> 9", "weight 1 -> 0",
            "weights leap=/ -> ARGUMENT", "errorPosition -> 5", "weights leap=: -> ARGUMENT", "errorPosition -> 5");
    }

    private static void weightsErrors() {
        SAY.sentence("That of the text of weights is the index of the first character that is not allowed",
            "weights leap-1 -> ARGUMENT", "errorPosition -> 4", "weights leap=x -> ARGUMENT", "errorPosition -> 5",
            "weights leap=12 -> ARGUMENT", "errorPosition -> 6", "weights leap=1;weak=1 -> ARGUMENT",
            "errorPosition -> 6", "weights leap==1 -> ARGUMENT", "errorPosition -> 5", "weights leap1 -> ARGUMENT",
            "errorPosition -> 4", "weights leap,weak=1 -> ARGUMENT", "errorPosition -> 4");
        SAY.sentence("or the first one of a name that is not that of a rule",
            "weights rule=1 -> ARGUMENT", "errorPosition -> 0", "weights leap=1,rule=1 -> ARGUMENT",
            "errorPosition -> 7", "weights leaps=1 -> ARGUMENT", "errorPosition -> 0", "weights =1 -> ARGUMENT",
            "errorPosition -> 0", "weights leap=1,=1 -> ARGUMENT", "errorPosition -> 7", "weights leap=1,,weak=1 -> ARGUMENT",
            "errorPosition -> 7", "weights leapweak=1 -> ARGUMENT", "errorPosition -> 0");
        SAY.sentence("also of one cut short by the end",
            "weights l -> ARGUMENT", "errorPosition -> 0", "weights lea -> ARGUMENT", "errorPosition -> 0",
            "weights leap=1,wea -> ARGUMENT", "errorPosition -> 7", "weights leap=1, -> ARGUMENT", "errorPosition -> 7",
            "weights -> ARGUMENT", "errorPosition -> 0");
        SAY.sentence("or the length of the text if it ends too early behind a name",
            "weights leap -> ARGUMENT", "errorPosition -> 4", "weights leap= -> ARGUMENT", "errorPosition -> 5",
            "weights leap=1,weak -> ARGUMENT", "errorPosition -> 11", "weights leap=1,weak= -> ARGUMENT",
            "errorPosition -> 12");
        SAY.sentence("a name is read as far as small letters follow",
            "weights leapA=1 -> ARGUMENT", "errorPosition -> 4", "weights leA=1 -> ARGUMENT", "errorPosition -> 0",
            "weights leapa=1 -> ARGUMENT", "errorPosition -> 0", "weights leapz=1 -> ARGUMENT", "errorPosition -> 0",
            "weights leap`=1 -> ARGUMENT", "errorPosition -> 4", "weights leap{=1 -> ARGUMENT", "errorPosition -> 4",
            "weights Leap=1 -> ARGUMENT", "errorPosition -> 0");
    }

    private static void changes() {
        String[] lines = {"cantus d4,c4", "counterpoint b4,c5", "setSpecies 1", "setPosition false", "set 0 36",
            "setWeight 3 1", "weights leap=1", "setNote 0 0 103", "adopt", "restore"};
        for (String line : lines) {
            SAY.sentence("The changes are the calls without an exception, also if nothing is different then",
                "save", "cantus d4,c4", "undo -> 0", "setWeight 14 0", "setPosition false", "cantus d4,c4", "search",
                "counterpoint b4,c5", "save", "count 9 -> 4", line, "count 9 -> 5", "undo -> 4", "made -> b4,c5",
                "undo -> 3", "undo -> 2", "undo -> 1", "undo -> 0", "undo -> STATE");
        }
    }

    private static void whatIsNoChange() {
        String[] lines = {"save", "search", "better 0 0", "costWith 0 0 42", "count 0", "errorPosition", "append 0",
            "type x", "note 0 0", "text true 0", "interval 0 0 0", "motion 0", "fault 0 0", "cost", "weight 1"};
        for (String line : lines) {
            SAY.sentence("and no other calls", "setWeight 15 0", "cantus d4,c4", "counterpoint b4,b4", "set 1 84", line,
                "count 9 -> 4", "undo -> 3", "count 5 -> 72", "made -> b4,b4");
        }
        String[] refused = {"cantus x", "counterpoint x", "setSpecies 5", "set 0 23", "set 3 0", "setWeight 0 1",
            "setWeight 1 10", "weights x", "setNote 0 0 41", "setNote 0 1 42", "adopt", "restore"};
        for (String line : refused) {
            CounterpointChecker x = Check.withLines(1, "d4,c4", "b4,c5");
            String got = Script.outcome(x, line);
            CHECK.due(line + " is refused", 1, () -> got.matches("[A-Z]+") ? 1 : 0);
            SAY.run("and none that are refused: " + line, x, "count 9 -> 3", "undo -> 2", "count 1 -> 0");
        }
    }

    /** The place of the oldest change goes round: after any number of changes, six can be taken back. */
    private static void mostChanges() {
        for (int changes = 0; changes <= 20; changes++) {
            CounterpointChecker x = new CounterpointChecker();
            for (int i = 1; i <= changes; i++) {
                x.set(1, 40 + i);
            }
            int kept = Math.min(6, changes);
            SAY.run("At most 6 of them can be taken back by undo", x, "count 9 -> " + kept);
            for (int left = kept - 1; left >= 0; left--) {
                int place = changes - kept + left;
                SAY.run("after " + changes + " changes", x, "undo -> " + left, "count 9 -> " + left,
                    "count 5 -> " + (place == 0 ? 72 : 40 + place));
            }
            SAY.run("older ones are forgotten", x, "undo -> STATE", "count 9 -> 0", "set 1 80", "count 9 -> 1",
                "undo -> 0", "count 5 -> " + (changes <= 6 ? 72 : 34 + changes));
        }
    }

    private static void whatStays() {
        SAY.sentence("The buffer, the error position and the suggestion stay as they are by undo and restore",
            "setWeight 14 0", "cantus d4,c4", "search -> 131", "set 0 59", "search", "save",
            "cantus c4,x -> ARGUMENT", "type leap=7", "undo -> 2", "count 8 -> 6", "errorPosition -> 3", "count 10 -> 2",
            "suggested 0 -> 103", "restore -> 2", "count 8 -> 6", "errorPosition -> 3", "count 10 -> 2",
            "suggested 1 -> 106", "weights -> 1", "weight 2 -> 7", "errorPosition -> -1");
    }
}
