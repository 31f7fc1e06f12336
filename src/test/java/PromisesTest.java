/** The promises 1 to 34, one after the other: what each sentence of them says at its boundaries. */
public final class PromisesTest {
    private static final Check CHECK = new Check();
    private static final Script SAY = new Script(CHECK);
    private static final String[] ABOVE = {"cantus d4,c4", "counterpoint b4,c5"};
    private static final String[] RESTED = {"cantus d4,c4", "setSpecies 2", "counterpoint -,b4,c5"};

    public static void main(String[] args) {
        newObject();
        append();
        cantus();
        counterpoint();
        errorPosition();
        setSpecies();
        setPosition();
        set();
        setNote();
        note();
        noteOf();
        text();
        interval();
        motion();
        motions();
        contraryBits();
        meanBits();
        setWeight();
        weights();
        weight();
        fault();
        explain();
        faults();
        faultsIn();
        cost();
        better();
        costWith();
        search();
        suggested();
        adopt();
        count();
        undo();
        save();
        restore();
        CHECK.end();
    }

    private static void say(String words, Object... lines) {
        SAY.sentence(words, Script.joined(lines));
    }

    private static void newObject() {
        say("1: a checker without lines", "count 0 -> 0", "count 1 -> 0", "count 2 -> 1", "count 3 -> 0", "count 4 -> 36",
            "count 5 -> 72", "count 6 -> 16", "count 7 -> 16", "count 8 -> 0", "count 9 -> 0", "count 10 -> 0",
            "errorPosition -> -1", "undo -> STATE", "restore -> STATE", "suggested 0 -> STATE", "text true -1 -> STATE",
            "text false -1 -> STATE", "search -> STATE", "adopt -> STATE");
        CounterpointChecker first = Check.withLines(1, "d4,c4", "b4,c5");
        SAY.run("1: one object's changes are none of another", first, "setWeight 1 9", "save");
        say("1: one object's changes are none of another", "count 0 -> 0", "weight 1 -> 1", "restore -> STATE");
    }

    private static void append() {
        say("2: up to four characters, from the most significant byte to the least significant one",
            "append 0x63342c64 -> 4", "append 0x34 -> 5", "cantus -> 2", "given -> c4,d4");
        say("2: bytes that are 0 are skipped", "append 0 -> 0", "append 0x63000000 -> 1", "append 0x00340000 -> 2",
            "append 0x00002c00 -> 3", "append 0x64 -> 4", "append 0x23003500 -> 6", "cantus -> 2", "given -> c4,d#5");
        say("2: a byte that is not 0 is not from 33 to 126", "append 33 -> 1", "append 126 -> 2", "append 32 -> ARGUMENT",
            "append 127 -> ARGUMENT", "append 1 -> ARGUMENT", "append 128 -> ARGUMENT", "append 255 -> ARGUMENT",
            "append 0x20000000 -> ARGUMENT", "append 0x7f000000 -> ARGUMENT", "append 0x80000000 -> ARGUMENT",
            "append 0xff000000 -> ARGUMENT", "append 0x00200000 -> ARGUMENT", "append 0x00ff0000 -> ARGUMENT",
            "append 0x00002000 -> ARGUMENT", "append 0x0000a100 -> ARGUMENT", "append 0x7e7e7e20 -> ARGUMENT",
            "append LEAST -> ARGUMENT", "append MOST -> ARGUMENT", "append -1 -> ARGUMENT", "count 8 -> 2",
            "append 0x21000000 -> 3", "append 0x7e000000 -> 4", "append 0x7e212121 -> 8");
        say("2: there would be more than 180 characters", Script.times(44, "type c4,d"), "type c4, -> ",
            "append 0x63340000 -> STATE", "append 0x63342c64 -> STATE", "append 0x63 -> 180", "append 0x63 -> STATE",
            "append 0x20 -> ARGUMENT", "append 0x63340020 -> ARGUMENT", "append 0 -> 180");
    }

    private static void cantus() {
        say("3: there is no counterpoint then", ABOVE, "count 1 -> 2", "cantus d4,c4 -> 2", "count 1 -> 0",
            "cost -> STATE");
        say("3: the buffer is empty afterwards", "type c4,c4", "count 8 -> 5", "cantus -> 2", "count 8 -> 0");
        say("3: also if an exception is thrown", ABOVE, "type c4,c", "cantus -> ARGUMENT", "count 8 -> 0",
            "made -> b4,c5", "given -> d4,c4", "count 9 -> 2");
        say("3: a thirteenth note is one too many", "cantus " + Script.row(12, "c4") + " -> 12",
            "cantus " + Script.row(13, "c4") + " -> ARGUMENT", "errorPosition -> 35", "count 0 -> 12");
        say("3: less than two are too few", "cantus c4 -> ARGUMENT", "errorPosition -> 2", "cantus -> ARGUMENT",
            "errorPosition -> 0", "cantus c4,c4 -> 2", "errorPosition -> -1");
        say("3: the species, the position, the settings and the weights stay", "setSpecies 4", "setPosition true",
            "set 2 30", "setWeight 2 7", "cantus c4,c4 -> 2", "count 2 -> 4", "count 3 -> 1", "count 6 -> 30",
            "weight 2 -> 7");
    }

    private static void counterpoint() {
        say("4: returns the number of faults", "cantus d4,c4", "counterpoint b4,c5 -> 1", "counterpoint b4,b4 -> 5",
            "setWeight 14 0", "counterpoint b4,c5 -> 0");
        say("4: the buffer is empty afterwards, also if IllegalArgumentException is thrown", ABOVE, "type c4",
            "counterpoint -> ARGUMENT", "count 8 -> 0", "errorPosition -> 2", "made -> b4,c5", "type c4,c4",
            "counterpoint", "count 8 -> 0", "errorPosition -> -1");
        say("4: there is no cantus: then it is not", "type c4,c4", "counterpoint -> STATE", "count 8 -> 5",
            "errorPosition -> -1", "cantus -> 2");
        say("4: an error in the text", "cantus d4,c4", "counterpoint b4,c -> ARGUMENT", "errorPosition -> 4",
            "counterpoint -> ARGUMENT", "errorPosition -> 0", "counterpoint b4,c5,c5 -> ARGUMENT", "errorPosition -> 5",
            "counterpoint b4 -> ARGUMENT", "errorPosition -> 2", "count 1 -> 0");
    }

    private static void errorPosition() {
        say("5: -1 if no text was read", "errorPosition -> -1", "type c", "errorPosition -> -1",
            "counterpoint -> STATE", "errorPosition -> -1");
        say("5: of the text that was read most recently", "cantus c4,x -> ARGUMENT", "errorPosition -> 3",
            "weights leap -> ARGUMENT", "errorPosition -> 4", "cantus d4,c4", "errorPosition -> -1",
            "counterpoint b4,c5, -> ARGUMENT", "errorPosition -> 5", "counterpoint b4,c5", "errorPosition -> -1",
            "weights x -> ARGUMENT", "errorPosition -> 0", "weights leap=1", "errorPosition -> -1");
        say("5: other calls leave it, also those that are refused", "cantus c4,x -> ARGUMENT", "setSpecies 5 -> ARGUMENT",
            "errorPosition -> 3", "append 1 -> ARGUMENT", "errorPosition -> 3", "counterpoint -> STATE",
            "errorPosition -> 3", "errorPosition -> 3");
    }

    private static void setSpecies() {
        say("6: if it changes, there is no counterpoint then", ABOVE, "setSpecies 4 -> 1", "count 1 -> 0",
            "count 0 -> 2", "setSpecies 1 -> 4", "count 1 -> 0");
        say("6: if it does not, there is", ABOVE, "setSpecies 1 -> 1", "made -> b4,c5", "count 9 -> 3");
        say("6: there is no such species", ABOVE, "setSpecies 0 -> ARGUMENT", "setSpecies 5 -> ARGUMENT",
            "setSpecies LEAST -> ARGUMENT", "setSpecies MOST -> ARGUMENT", "made -> b4,c5", "count 2 -> 1");
    }

    private static void setPosition() {
        say("7: returns whether it was below", "setPosition false -> false", "setPosition true -> false",
            "setPosition true -> true", "setPosition false -> true", "count 9 -> 4");
        say("7: the counterpoint stays, its faults are others", ABOVE, "faults 12 -> 0", "setPosition true",
            "made -> b4,c5", "faults 12 -> 2");
    }

    private static void set() {
        say("8: returns the previous value", "set 0 37 -> 36", "set 0 37 -> 37", "set 1 71 -> 72", "set 2 17 -> 16",
            "set 0 36 -> 37", "count 4 -> 36", "count 5 -> 71", "count 6 -> 17");
        say("8: there is no such setting", "set -1 36 -> INDEX", "set 3 36 -> INDEX", "set LEAST 36 -> INDEX",
            "set MOST 36 -> INDEX", "set 3 -1 -> INDEX", "count 9 -> 0");
        say("8: or the lowest pitch would be greater than the highest one", "set 0 73 -> ARGUMENT", "set 0 72 -> 36",
            "set 1 71 -> ARGUMENT", "set 1 72 -> 72", "set 1 73 -> 72", "set 0 73 -> 72", "set 1 72 -> ARGUMENT",
            "set 0 74 -> ARGUMENT", "count 4 -> 73", "count 5 -> 73");
        say("8: what stands is free of it: the greatest width has no part in it", "set 2 12 -> 16", "set 0 72 -> 36",
            "set 2 36 -> 12");
    }

    private static void setNote() {
        say("9: replaces a note, returns the code of the previous one", ABOVE, "setNote 0 0 42 -> 103",
            "setNote 0 0 146 -> 42", "setNote 1 0 42 -> 106", "made -> b#6,cb2", "setNote 0 0 146 -> 146");
        say("9: a rest cannot be replaced", RESTED, "setNote 0 0 85 -> ELEMENT", "setNote 0 0 -1 -> ARGUMENT",
            "made -> -,b4,c5");
        say("9: nor a note by a rest", RESTED, "setNote 0 1 -1 -> ARGUMENT", "made -> -,b4,c5");
        say("9: there is no counterpoint", "cantus d4,c4", "setNote 0 0 85 -> STATE");
        say("9: there is no such bar or beat", RESTED, "setNote -1 0 85 -> INDEX", "setNote 2 0 85 -> INDEX",
            "setNote 0 -1 85 -> INDEX", "setNote 0 2 85 -> INDEX", "setNote 1 1 85 -> INDEX", "setNote 1 -1 85 -> INDEX",
            "setNote MOST MOST 85 -> INDEX", "setNote LEAST LEAST 85 -> INDEX", "setNote 0 MOST 85 -> INDEX",
            "setNote 0x40000000 0 85 -> INDEX", "setNote 0x40000000 1 85 -> INDEX", "made -> -,b4,c5");
        say("9: there is no note with this code", ABOVE, "setNote 0 0 41 -> ARGUMENT", "setNote 0 0 147 -> ARGUMENT",
            "setNote 0 0 LEAST -> ARGUMENT", "setNote 0 0 MOST -> ARGUMENT", "made -> b4,c5", "count 9 -> 2");
    }

    private static void note() {
        say("10: the code, or -1 for a rest", RESTED, "note 0 0 -> -1", "note 0 1 -> 103", "note 1 0 -> 106");
        say("10: the beat, or -1 for the cantus", RESTED, "note 0 -1 -> 88", "note 1 -1 -> 85");
        say("10: there is no cantus", "note 0 -1 -> STATE", "note 0 0 -> STATE", "note -1 -1 -> STATE");
        say("10: or the beat is not -1 and there is no counterpoint", "cantus d4,c4", "note 0 -1 -> 88",
            "note 0 0 -> STATE", "note 0 -2 -> STATE", "note 0 LEAST -> STATE", "note 9 9 -> STATE");
        say("10: there is no such bar or beat", RESTED, "note -1 -1 -> INDEX", "note 2 -1 -> INDEX", "note -1 0 -> INDEX",
            "note 2 0 -> INDEX", "note 0 2 -> INDEX", "note 1 1 -> INDEX", "note 0 -2 -> INDEX", "note MOST -1 -> INDEX",
            "note LEAST -1 -> INDEX", "note 0 LEAST -> INDEX", "note 0 MOST -> INDEX", "note 0x40000000 0 -> INDEX");
    }

    private static void noteOf() {
        say("11: the properties of the least and the greatest code", "noteOf 42 0 -> 14", "noteOf 42 1 -> -1",
            "noteOf 42 2 -> 23", "noteOf 42 3 -> 0", "noteOf 42 4 -> 2", "noteOf 146 0 -> 48", "noteOf 146 1 -> 1",
            "noteOf 146 2 -> 84", "noteOf 146 3 -> 6", "noteOf 146 4 -> 6");
        say("11: there is no note with this code", "noteOf 41 0 -> INDEX", "noteOf 147 0 -> INDEX", "noteOf 0 0 -> INDEX",
            "noteOf -1 0 -> INDEX", "noteOf LEAST 4 -> INDEX", "noteOf MOST 4 -> INDEX", "noteOf 41 5 -> INDEX");
        say("11: what is not from 0 to 4", "noteOf 42 -1 -> ARGUMENT", "noteOf 146 5 -> ARGUMENT",
            "noteOf 85 LEAST -> ARGUMENT", "noteOf 85 MOST -> ARGUMENT");
    }

    private static void text() {
        say("12: the index, from 0, or -1 for the length", "cantus bb2,c#6", "text true -1 -> 7", "text true 0 -> 98",
            "text true 1 -> 98", "text true 2 -> 50", "text true 3 -> 44", "text true 5 -> 35", "text true 6 -> 54",
            "text true 7 -> INDEX", "text true -2 -> INDEX", "text true LEAST -> INDEX", "text true MOST -> INDEX");
        say("12: there is no such line", "text true 0 -> STATE", "text false 0 -> STATE", "cantus c4,c4",
            "text true 0 -> 99", "text false 0 -> STATE", "text false 99 -> STATE");
        say("12: of the counterpoint, as it is read", RESTED, "text false -1 -> 7", "text false 0 -> 45",
            "text false 6 -> 53", "text false 7 -> INDEX", "text true 5 -> INDEX", "setNote 0 1 104", "text false -1 -> 8",
            "made -> -,b#4,c5");
    }

    private static void interval() {
        say("13: 2 if it is perfect, 1 if it is consonant otherwise, 0 if it is neither", "cantus c4,c4,c4",
            "counterpoint g4,e4,d4", "interval 0 0 2 -> 2", "interval 1 0 2 -> 1", "interval 2 0 2 -> 0");
        say("13: its class, or 0", "cantus c4,c4,c4", "counterpoint g4,c4,e4", "interval 0 0 3 -> 5",
            "interval 1 0 3 -> 8", "interval 2 0 3 -> 0");
        say("13: 1 if the note is tied, otherwise 0", "cantus c4,c4", "setSpecies 4", "counterpoint -,c5,c5",
            "interval 0 1 4 -> 0", "interval 1 0 4 -> 1");
        say("13: there is no counterpoint", "cantus c4,c4", "interval 0 0 0 -> STATE", "interval 9 9 9 -> STATE");
        say("13: there is no such bar or beat", RESTED, "interval -1 0 0 -> INDEX", "interval 2 0 0 -> INDEX",
            "interval 0 -1 0 -> INDEX", "interval 0 2 0 -> INDEX", "interval 1 1 0 -> INDEX", "interval 2 0 5 -> INDEX",
            "interval LEAST MOST 0 -> INDEX", "interval MOST LEAST 0 -> INDEX");
        say("13: there is a rest", RESTED, "interval 0 0 0 -> ELEMENT", "interval 0 0 5 -> ELEMENT",
            "interval 0 0 4 -> ELEMENT");
        say("13: what is not from 0 to 4", RESTED, "interval 0 1 -1 -> ARGUMENT", "interval 0 1 5 -> ARGUMENT",
            "interval 0 1 LEAST -> ARGUMENT", "interval 0 1 MOST -> ARGUMENT", "interval 0 1 4 -> 0");
    }

    private static void motion() {
        say("14: 0 if neither goes up or down", "cantus c4,c4,b#3", "counterpoint c5,c5,b#4", "motion 0 -> 0",
            "motion 1 -> 0");
        say("14: 1 if just one does", "cantus c4,d4,d4", "counterpoint c5,c5,b4", "motion 0 -> 1", "motion 1 -> 1");
        say("14: 2 if they go in different directions", "cantus c4,d4,c4", "counterpoint c5,b4,g5", "motion 0 -> 2",
            "motion 1 -> 2");
        say("14: 3 if they go in the same direction with different widths, 4 with the same width",
            "cantus c4,d4,c4,d4,e4", "counterpoint c5,d5,c5,db5,e5", "motion 0 -> 4", "motion 1 -> 4", "motion 2 -> 3",
            "motion 3 -> 3");
        say("14: from beat 0 of a bar to beat 0 of the next one", "cantus c4,d4,c4", "setSpecies 3",
            "counterpoint c5,b4,a4,g4,d5,e5,f5,g5,c5", "motion 0 -> 4", "motion 1 -> 4");
        say("14: there is no counterpoint", "cantus c4,c4", "motion 0 -> STATE", "motion -1 -> STATE");
        say("14: there is no such bar or it is the last one", "cantus c4,c4,c4", "counterpoint c5,c5,c5", "motion 1 -> 0",
            "motion 2 -> INDEX", "motion 3 -> INDEX", "motion -1 -> INDEX", "motion LEAST -> INDEX",
            "motion MOST -> INDEX");
        say("14: there is a rest", "cantus d4,c4,d4", "setSpecies 2", "counterpoint -,b4,c5,b4,b4", "motion 0 -> ELEMENT",
            "motion 1 -> 2", "motion 2 -> INDEX");
    }

    private static void motions() {
        String longest = Script.row(12, "c4");
        say("15: the number of motions of a kind", "cantus " + longest, "counterpoint " + longest, "motions 0 -> 11",
            "motions 1 -> 0", "motions 2 -> 0", "motions 3 -> 0", "motions 4 -> 0");
        say("15: bars with a rest have none", RESTED, "motions 0 -> 0", "motions 1 -> 0", "motions 2 -> 0",
            "motions 3 -> 0", "motions 4 -> 0", "cantus " + longest, "counterpoint -," + Script.row(22, "c5"),
            "motions 0 -> 10");
        say("15: there is no counterpoint", "motions 0 -> STATE", "motions 5 -> STATE", "cantus c4,c4",
            "motions 0 -> STATE");
        say("15: there is no such kind", ABOVE, "motions -1 -> ARGUMENT", "motions 5 -> ARGUMENT",
            "motions LEAST -> ARGUMENT", "motions MOST -> ARGUMENT");
    }

    private static void contraryBits() {
        say("16: the share of motions in different directions: none of them", "cantus c4,c4", "counterpoint c5,c5",
            "contraryBits -> 0");
        say("16: all of them", "cantus d4,c4", "counterpoint b4,c5", "contraryBits -> " + Float.floatToIntBits(1.0f));
        say("16: one of eleven", "cantus d4," + Script.row(11, "c4"), "counterpoint b4," + Script.row(11, "c5"),
            "contraryBits -> " + Float.floatToIntBits(1.0f / 11.0f));
        say("16: two of three", "cantus d4,c4,d4,d4", "counterpoint b4,c5,b4,b4",
            "contraryBits -> " + Float.floatToIntBits(2.0f / 3.0f));
        say("16: a bar with a rest has none", "cantus d4,c4,d4", "setSpecies 4", "counterpoint -,b4,c5,b4,b4",
            "contraryBits -> " + Float.floatToIntBits(1.0f));
        say("16: there is no counterpoint", "cantus c4,c4", "contraryBits -> STATE");
        say("16: there are no motions", RESTED, "contraryBits -> ARITHMETIC", "counterpoint b4,b4,c5",
            "contraryBits -> " + Float.floatToIntBits(1.0f));
    }

    private static void meanBits() {
        say("17: the mean of zeros", "cantus c4,b#3", "counterpoint b#3,c4", "meanBits -> 0");
        say("17: the greatest mean", "cantus cb2,cb2", "counterpoint b#6,b#6",
            "meanBits -> " + Double.doubleToLongBits(61.0));
        say("17: a mean below 1", "cantus c4,c4,c4", "counterpoint c4,c#4,c4",
            "meanBits -> " + Double.doubleToLongBits(1.0 / 3.0));
        say("17: one of the least means", "cantus " + Script.row(12, "c4"), "setSpecies 3",
            "counterpoint c#4," + Script.row(44, "c4"), "meanBits -> " + Double.doubleToLongBits(1.0 / 45.0));
        say("17: of the notes that are no rests", RESTED, "meanBits -> " + Double.doubleToLongBits((9.0 + 12.0) / 2.0));
        say("17: there is no counterpoint", "cantus c4,c4", "meanBits -> STATE");
    }

    private static void setWeight() {
        say("18: returns the previous weight", "setWeight 1 0 -> 1", "setWeight 1 9 -> 0", "setWeight 1 9 -> 9",
            "setWeight 16 5 -> 1", "setWeight 16 1 -> 5");
        say("18: there is no such rule", "setWeight 0 1 -> INDEX", "setWeight 17 1 -> INDEX", "setWeight -1 1 -> INDEX",
            "setWeight LEAST 1 -> INDEX", "setWeight MOST 1 -> INDEX", "setWeight 0 10 -> INDEX", "count 7 -> 16");
        say("18: the weight is out of range", "setWeight 1 -1 -> ARGUMENT", "setWeight 16 10 -> ARGUMENT",
            "setWeight 1 LEAST -> ARGUMENT", "setWeight 16 MOST -> ARGUMENT", "count 7 -> 16", "count 9 -> 0");
    }

    private static void weights() {
        say("19: the weights that the text names, one after the other; a name can come again; the number of names",
            "weights leap=2 -> 1", "weights leap=3,leap=4,leap=1 -> 3", "weight 2 -> 1",
            "weights range=9,suspend=0,range=8 -> 3", "weight 1 -> 8", "weight 16 -> 0", "count 7 -> 22", "count 9 -> 3");
        say("19: all of them", "weights range=2,leap=2,recover=2,repeat=2,outline=2,climax=2,strong=2,weak=2,parallel=2,"
            + "direct=2,unison=2,cross=2,space=2,begin=2,cadence=2,suspend=2 -> 16", "count 7 -> 32");
        say("19: the buffer is empty afterwards", "type leap=2", "weights -> 1", "count 8 -> 0");
        say("19: also if an exception is thrown", "type leap=", "weights -> ARGUMENT", "count 8 -> 0");
        say("19: an error in the text; then no weight changes", "weights leap=5,weak=6,leap=x -> ARGUMENT",
            "errorPosition -> 19", "weight 2 -> 1", "weight 8 -> 1", "count 9 -> 0", "weights -> ARGUMENT",
            "weights weak=6 -> 1", "weight 2 -> 1", "weight 8 -> 6");
        say("19: a number that the text before named is not named again", "weights leap=5 -> 1", "setWeight 2 3 -> 5",
            "weights weak=6 -> 1", "weight 2 -> 3");
    }

    private static void weight() {
        say("20: the weight of a rule", "weight 1 -> 1", "weight 16 -> 1");
        say("20: there is no such rule", "weight 0 -> INDEX", "weight 17 -> INDEX", "weight -1 -> INDEX",
            "weight LEAST -> INDEX", "weight MOST -> INDEX");
    }

    private static void fault() {
        String[] five = {"cantus d4,c4", "counterpoint b4,b4 -> 5"};
        say("21: the number of the fault, from 0", five, "fault 0 0 -> 14", "fault 0 1 -> 0", "fault 0 2 -> 0",
            "fault 0 3 -> 9", "fault 4 0 -> 15", "fault 4 1 -> 1", "fault 4 2 -> 0", "fault 4 3 -> 1");
        say("21: there is no counterpoint", "cantus d4,c4", "fault 0 0 -> STATE", "fault -1 9 -> STATE");
        say("21: there is no such fault", five, "fault 5 0 -> ELEMENT", "fault -1 0 -> ELEMENT",
            "fault LEAST 0 -> ELEMENT", "fault MOST 0 -> ELEMENT", "fault 5 4 -> ELEMENT");
        say("21: not even one", "cantus d4,c4", "setWeight 14 0", "counterpoint b4,c5 -> 0", "fault 0 0 -> ELEMENT");
        say("21: what is not from 0 to 3", five, "fault 0 -1 -> ARGUMENT", "fault 4 4 -> ARGUMENT",
            "fault 0 LEAST -> ARGUMENT", "fault 0 MOST -> ARGUMENT");
    }

    private static void explain() {
        say("22: the bar plus 1, a point, the beat plus 1, a colon, the name, an equals sign and the detail",
            "cantus c4,d4,e4", "setSpecies 2", "counterpoint c4,e4,a4,c5,b4", "only 9", "found -> 3.1:parallel=5");
        String names = "range,leap,recover,repeat,outline,climax,strong,weak,parallel,direct,unison,cross,space,begin,"
            + "cadence,suspend";
        CounterpointChecker x = new CounterpointChecker();
        for (String name : names.split(",")) {
            SAY.run("22: the names of the rules are those of their weights", x, "weights " + name + "=2 -> 1");
        }
        SAY.run("22: the names of the rules are those of their weights", x, "count 7 -> 32");
        String twelve = Script.row(12, "c4");
        say("22: bars and details with two digits", "cantus " + twelve, "counterpoint " + Script.row(11, "c5") + ",c#6",
            "only 1", "found -> 12.1:range=73", "explain 0 -1 -> 13", "explain 0 0 -> 49", "explain 0 1 -> 50",
            "explain 0 12 -> 51", "explain 0 13 -> INDEX", "setNote 11 0 106", "setNote 9 0 128", "explain 0 0 -> 49",
            "explain 0 1 -> 48", "setNote 9 0 106", "setNote 8 0 128", "explain 0 -1 -> 12", "explain 0 0 -> 57",
            "explain 0 1 -> 46");
        say("22: beats to 4, and a detail of 0 and of 10", "cantus c4,c4", "setSpecies 3", "counterpoint c5,d5,e5,e5,g5",
            "only 4", "found -> 1.4:repeat=0", "only 7", "setNote 1 0 102", "found -> 2.1:strong=10");
        say("22: there is no counterpoint", "cantus d4,c4", "explain 0 -1 -> STATE", "explain -1 99 -> STATE");
        say("22: there is no such fault", ABOVE, "explain 1 -1 -> ELEMENT", "explain -1 -1 -> ELEMENT",
            "explain LEAST 0 -> ELEMENT", "explain MOST 0 -> ELEMENT", "explain 1 99 -> ELEMENT");
        say("22: index is not -1 and there is no such index", ABOVE, "explain 0 -1 -> 11", "explain 0 10 -> 57",
            "explain 0 11 -> INDEX", "explain 0 -2 -> INDEX", "explain 0 LEAST -> INDEX", "explain 0 MOST -> INDEX");
    }

    private static void faults() {
        say("23: the rule, or 0 for all", "cantus d4,c4", "counterpoint b4,b4", "faults 0 -> 5", "faults 14 -> 1",
            "faults 4 -> 1", "faults 6 -> 1", "faults 7 -> 1", "faults 15 -> 1", "faults 1 -> 0", "faults 16 -> 0");
        say("23: there is no counterpoint", "faults 0 -> STATE", "cantus d4,c4", "faults 17 -> STATE");
        say("23: there is no such rule", ABOVE, "faults -1 -> INDEX", "faults 17 -> INDEX", "faults LEAST -> INDEX",
            "faults MOST -> INDEX");
    }

    private static void faultsIn() {
        say("24: the number of faults of a bar, all its notes together", "cantus c4,c4", "setSpecies 3",
            "counterpoint -,c4,c4,c4,c4", "only 4", "faultsIn 0 -> 2", "faultsIn 1 -> 1", "setWeight 4 0",
            "faultsIn 0 -> 0");
        say("24: there is no counterpoint", "faultsIn 0 -> STATE", "cantus d4,c4", "faultsIn 9 -> STATE");
        say("24: there is no such bar", ABOVE, "faultsIn 0 -> 1", "faultsIn 1 -> 0", "faultsIn 2 -> INDEX",
            "faultsIn -1 -> INDEX", "faultsIn LEAST -> INDEX", "faultsIn MOST -> INDEX");
    }

    private static void cost() {
        say("25: the cost of the counterpoint, 0 if there is no fault", ABOVE, "cost -> 1", "setWeight 14 0", "cost -> 0",
            "setWeight 14 9", "cost -> 9");
        say("25: there is no counterpoint", "cost -> STATE", "cantus d4,c4", "cost -> STATE");
    }

    private static void better() {
        String[] free = {"only 1", "setWeight 1 0"};
        say("26: among all notes whose pitches are from the lowest to the highest one allowed; the one with the least code",
            ABOVE, free, "better 0 0 -> 62", "set 0 37", "better 0 0 -> 65", "set 0 38", "better 0 0 -> 67", "set 0 24",
            "better 0 0 -> 43", "set 1 24", "better 0 0 -> 43", "set 1 84", "set 0 84", "better 0 0 -> 146", "set 0 83",
            "better 0 0 -> 145");
        say("26: that note included", ABOVE, "better 1 0 -> 106", "setNote 1 0 103", "better 1 0 -> 106",
            "made -> b4,b4");
        say("26: with which the cost becomes least, with the weights that the rules have", "cantus c4,c4",
            "counterpoint c5,c5", "only 14", "better 0 0 -> 64", "setPosition true", "set 0 37", "better 0 0 -> 85");
        say("26: of all species, the last note, too", RESTED, "setWeight 14 0", "better 1 0 -> 106", "better 0 1 -> 103");
        say("26: there is no counterpoint", "better 0 0 -> STATE", "cantus d4,c4", "better 9 9 -> STATE");
        say("26: there is no such bar or beat", RESTED, "better -1 0 -> INDEX", "better 2 0 -> INDEX",
            "better 0 -1 -> INDEX", "better 0 2 -> INDEX", "better 1 1 -> INDEX", "better LEAST LEAST -> INDEX",
            "better MOST MOST -> INDEX");
        say("26: there is a rest", RESTED, "better 0 0 -> ELEMENT");
    }

    private static void costWith() {
        say("27: the cost that would result if a note were replaced; it is not", "cantus d4,c4", "counterpoint b4,b4",
            "costWith 1 0 106 -> 1", "costWith 1 0 103 -> 5", "cost -> 5", "made -> b4,b4", "count 9 -> 2",
            "setNote 1 0 106", "cost -> 1");
        say("27: of the least and the greatest code", ABOVE, "only 1", "costWith 0 0 42 -> 1", "costWith 0 0 146 -> 1",
            "costWith 0 0 64 -> 0", "costWith 0 0 127 -> 0");
        say("27: there is no counterpoint", "costWith 0 0 85 -> STATE", "cantus d4,c4", "costWith 9 9 9 -> STATE");
        say("27: there is no such bar or beat", RESTED, "costWith -1 0 85 -> INDEX", "costWith 2 0 85 -> INDEX",
            "costWith 0 -1 85 -> INDEX", "costWith 0 2 85 -> INDEX", "costWith 1 1 85 -> INDEX",
            "costWith MOST LEAST 0 -> INDEX");
        say("27: there is no note with this code", RESTED, "costWith 0 1 41 -> ARGUMENT", "costWith 0 1 147 -> ARGUMENT",
            "costWith 0 0 41 -> ARGUMENT", "costWith 0 0 -1 -> ARGUMENT", "costWith 0 1 LEAST -> ARGUMENT",
            "costWith 0 1 MOST -> ARGUMENT");
        say("27: there is a rest", RESTED, "costWith 0 0 85 -> ELEMENT", "costWith 0 1 85");
    }

    private static void search() {
        String[] found = {"setWeight 14 0", "cantus d4,c4", "set 0 59", "set 1 60", "search -> 3"};
        say("28: if one is found, it is kept as the suggestion, in place of an earlier one", found, "count 10 -> 2",
            "suggested 0 -> 103", "cantus d4,e4,d4", "set 0 36", "set 1 72", "search", "count 10 -> 3");
        say("28: returns the number of trials: as many as there are bars at least", "only 1", "cantus c4,c4",
            "search -> 2", "cantus " + Script.row(12, "c4"), "search -> 12", "count 10 -> 12");
        say("28: there is no cantus", "search -> STATE");
        say("28: or the species is not 1", found, "setSpecies 2", "search -> STATE", "count 10 -> 2");
        say("28: no line is found; the earlier suggestion stays", found, "set 1 59", "search -> UNSUPPORTED",
            "count 10 -> 2", "suggested 0 -> 103", "suggested 1 -> 106", "count 9 -> 5", "adopt -> 1");
        say("28: the counterpoint stays", ABOVE, "setWeight 14 0", "setNote 0 0 42", "search", "made -> cb2,c5");
    }

    private static void suggested() {
        String[] found = {"setWeight 14 0", "cantus d4,c4", "set 0 59", "set 1 60", "search -> 3"};
        say("29: there is no suggestion", "suggested 0 -> STATE", "suggested -1 -> STATE", "cantus d4,c4",
            "suggested 0 -> STATE");
        say("29: it has no such bar", found, "suggested 0 -> 103", "suggested 1 -> 106", "suggested 2 -> INDEX",
            "suggested -1 -> INDEX", "suggested LEAST -> INDEX", "suggested MOST -> INDEX", "cantus c4,c4,c4",
            "suggested 2 -> INDEX", "suggested 1 -> 106");
    }

    private static void adopt() {
        String[] found = {"setWeight 14 0", "cantus d4,c4", "set 0 59", "set 1 60", "search -> 3"};
        say("30: makes the suggestion the counterpoint, returns the number of faults", found, "adopt -> 0",
            "made -> b4,c5", "suggested 1 -> 106", "setWeight 14 1", "adopt -> 1", "count 9 -> 6");
        say("30: there is no suggestion", "adopt -> STATE", "cantus d4,c4", "adopt -> STATE", "setSpecies 2",
            "adopt -> STATE");
        say("30: or no cantus", "save", found, "restore -> 0", "count 10 -> 2", "adopt -> STATE");
        say("30: the species is not 1", found, "setSpecies 4", "adopt -> UNSUPPORTED", "setSpecies 1", "adopt -> 0");
        say("30: or the suggestion does not have as many notes as the cantus", found, "cantus d4,d4,c4",
            "adopt -> UNSUPPORTED", "count 1 -> 0", "cantus e4,e4", "adopt", "made -> b4,c5");
        say("30: or more of them", found, "only 1", "cantus c4,c4,c4", "search -> 3", "cantus c4,c4",
            "adopt -> UNSUPPORTED", "count 10 -> 3");
    }

    private static void count() {
        String longest = Script.row(12, "c4");
        say("31: the notes of the cantus, those of the counterpoint, rests included", "count 0 -> 0", "count 1 -> 0",
            "cantus " + longest, "setSpecies 3", "counterpoint -," + Script.row(44, "c5"), "count 0 -> 12",
            "count 1 -> 45");
        say("31: the sum of all weights", "count 7 -> 16", "only 1", "setWeight 1 0", "count 7 -> 0",
            "weights range=9,leap=9,recover=9,repeat=9,outline=9,climax=9,strong=9,weak=9,parallel=9,direct=9,unison=9,"
            + "cross=9,space=9,begin=9,cadence=9,suspend=9 -> 16", "count 7 -> 144");
        say("31: the characters in the buffer", "count 8 -> 0", Script.times(45, "type c4,d"), "count 8 -> 180");
        say("31: what is not from 0 to 10", "count -1 -> ARGUMENT", "count 11 -> ARGUMENT", "count LEAST -> ARGUMENT",
            "count MOST -> ARGUMENT", "count 10 -> 0");
    }

    private static void undo() {
        say("32: takes back the latest change that was not taken back", "set 1 80", "set 1 81", "undo -> 1",
            "count 5 -> 80", "set 1 82", "undo -> 1", "count 5 -> 80", "undo -> 0", "count 5 -> 72", "undo -> STATE");
        say("32: the lines, too, and a counterpoint that was lost", RESTED, "setSpecies 1", "count 1 -> 0", "undo -> 3",
            "made -> -,b4,c5", "cantus c4,c4,c4", "undo -> 3", "made -> -,b4,c5", "given -> d4,c4", "undo -> 2",
            "count 1 -> 0", "undo -> 1", "count 2 -> 1", "undo -> 0", "count 0 -> 0");
        say("32: there is none", "undo -> STATE", "setWeight 0 0 -> INDEX", "undo -> STATE", "save", "undo -> STATE");
        say("32: what was saved stays", "save", "cantus d4,c4", "save -> 2", "undo -> 0", "count 0 -> 0", "restore -> 2",
            "given -> d4,c4");
    }

    private static void save() {
        say("33: returns the number of notes of the cantus", "save -> 0", "cantus c4,c4", "save -> 2",
            "cantus " + Script.row(12, "c4"), "save -> 12", "count 9 -> 2");
        say("33: replacing what was saved before", "set 1 80", "save", "set 1 81", "save", "set 1 82", "restore",
            "count 5 -> 81", "undo", "count 5 -> 82", "restore", "count 5 -> 81");
    }

    private static void restore() {
        say("34: restores what was saved; it stays saved", RESTED, "setPosition true", "set 0 30", "set 1 80", "set 2 20",
            "setWeight 16 9", "save -> 2", "cantus c4,c4,c4", "setSpecies 3", "setPosition false", "set 0 36", "set 1 72",
            "set 2 16", "setWeight 16 1", "restore -> 2", "given -> d4,c4", "made -> -,b4,c5", "count 2 -> 2",
            "count 3 -> 1", "count 4 -> 30", "count 5 -> 80", "count 6 -> 20", "weight 16 -> 9", "setNote 0 1 42",
            "setWeight 16 3", "restore -> 2", "made -> -,b4,c5", "weight 16 -> 9");
        say("34: nothing was saved", "restore -> STATE", "cantus c4,c4", "restore -> STATE", "count 9 -> 1", "save -> 2",
            "restore -> 2", "count 9 -> 2", "undo -> 1", "undo -> 0", "restore -> 2", "count 0 -> 2");
        say("34: an empty state, too", "save -> 0", RESTED, "restore -> 0", "count 0 -> 0", "count 1 -> 0",
            "count 2 -> 1", "undo -> 3", "made -> -,b4,c5");
    }
}
