/** Promises 1 to 12: a new object, the buffer, lines, settings and notes. */
public final class LinesTest {
    private static final Check CHECK = new Check();
    private static final Class<IllegalArgumentException> ARGUMENT = IllegalArgumentException.class;
    private static final Class<IllegalStateException> STATE = IllegalStateException.class;
    private static final Class<IndexOutOfBoundsException> INDEX = IndexOutOfBoundsException.class;
    private static final Class<java.util.NoSuchElementException> ELEMENT = java.util.NoSuchElementException.class;
    private static final String LONG_CANTUS = "c4,d4,e4,f4,g4,a4,g4,f4,e4,d4,e4,c4";

    public static void main(String[] args) {
        newObject();
        append();
        cantus();
        cantusErrors();
        counterpoint();
        counterpointErrors();
        errorPosition();
        species();
        position();
        settings();
        setNote();
        note();
        noteOf();
        text();
        CHECK.end();
    }

    private static void newObject() {
        CounterpointChecker x = new CounterpointChecker();
        int[] counts = {0, 0, 1, 0, 36, 72, 16, 16, 0, 0, 0};
        for (int what = 0; what < counts.length; what++) {
            int asked = what;
            CHECK.due("count(" + what + ") of a new object", counts[what], () -> x.count(asked));
        }
        CHECK.due("errorPosition of a new object", -1, x::errorPosition);
        CHECK.refused("cost of a new object", STATE, x::cost);
    }

    private static void append() {
        CounterpointChecker x = new CounterpointChecker();
        CHECK.due("append of four", 4, () -> x.append(Check.packed("c4,d")));
        CHECK.due("append of none", 4, () -> x.append(0));
        CHECK.due("append of one in front", 5, () -> x.append('4' << 24));
        CHECK.due("append of two with gaps", 7, () -> x.append(',' << 24 | 'e' << 8));
        CHECK.due("append of the last byte", 8, () -> x.append('5'));
        CHECK.due("cantus of what was appended", 3, x::cantus);
        CHECK.dueText("what was appended", "c4,d4,e5", Check.textOf(x, true));
        CHECK.due("append of the least and the greatest sign", 2, () -> x.append(33 << 8 | 126));
        CHECK.refused("append of 32", ARGUMENT, () -> x.append(32));
        CHECK.refused("append of 127", ARGUMENT, () -> x.append('c' << 24 | 127));
        CHECK.refused("append of a byte above 127", ARGUMENT, () -> x.append(0x80000000));
        CHECK.refused("append of -1", ARGUMENT, () -> x.append(-1));
        CHECK.due("the buffer after refusals", 2, () -> x.count(8));
        for (int i = 0; i < 44; i++) {
            x.append(Check.packed("cccc"));
        }
        CHECK.refused("append beyond 180", STATE, () -> x.append(Check.packed("ccc")));
        CHECK.refused("a wrong byte beyond 180", ARGUMENT, () -> x.append(Check.packed("ccc ")));
        CHECK.due("append up to 180", 180, () -> x.append(Check.packed("cc")));
        CHECK.due("append of none at 180", 180, () -> x.append(0));
        CHECK.refused("append of one at 180", STATE, () -> x.append('c'));
    }

    private static void cantus() {
        CounterpointChecker x = Check.withLines(1, "c4,d4,c4", "c5,b4,c5");
        CHECK.due("cantus of two", 2, () -> Check.type(x, "bb2,b#6").cantus());
        CHECK.due("the buffer after cantus", 0, () -> x.count(8));
        CHECK.due("the counterpoint after cantus", 0, () -> x.count(1));
        CHECK.due("errorPosition after cantus", -1, x::errorPosition);
        CHECK.due("the first code", 3 * (7 * 2 + 6), () -> x.note(0, -1));
        CHECK.due("the last code", 146, () -> x.note(1, -1));
        CHECK.due("cantus of twelve", 12, () -> Check.type(x, LONG_CANTUS).cantus());
    }

    private static void cantusErrors() {
        String[] texts = {"", "c", "c4", "c4,", "c4,d", "c4,d4,", "c4,d#", "c4,d#b4", "c4,db#4", "h4,c4", "c1,c4",
            "c7,c4", "c4,d7", "C4,d4", "c4;d4", "c4,d4x", "c4,d45", "c4,,d4", ",c4,d4", "-,c4", "c4,-,d4", "c4-",
            "c4,d4-", "##4,c4", "#c4,c4", "c4b,d4", "b,b4", "bb,b4", "bbb4,c4", "cb,b4", LONG_CANTUS + ",d4",
            LONG_CANTUS + ",", LONG_CANTUS + ",?", LONG_CANTUS + "d4"};
        int[] places = {0, 1, 2, 3, 4, 6, 5, 5, 5, 0, 1,
            1, 4, 0, 2, 5, 5, 3, 0, 0, 3, 2,
            5, 0, 0, 2, 1, 2, 2, 2, 35,
            35, 35, 35};
        CounterpointChecker x = Check.withLines(1, "c4,d4,c4", "c5,b4,c5");
        for (int i = 0; i < texts.length; i++) {
            String text = texts[i];
            CHECK.refused("cantus of '" + text + "'", ARGUMENT, () -> Check.type(x, text).cantus());
            CHECK.due("errorPosition of '" + text + "'", places[i], x::errorPosition);
            CHECK.due("the buffer after '" + text + "'", 0, () -> x.count(8));
        }
        CHECK.dueText("the cantus after errors", "c4,d4,c4", Check.textOf(x, true));
        CHECK.dueText("the counterpoint after errors", "c5,b4,c5", Check.textOf(x, false));
        CHECK.due("the changes after errors", 3, () -> x.count(9));
    }

    private static void counterpoint() {
        String[] cantus = {"c4,d4,c4", LONG_CANTUS};
        int[][] notes = {{3, 5, 9, 5}, {12, 23, 45, 23}};
        for (int which = 0; which < cantus.length; which++) {
            for (int species = 1; species <= 4; species++) {
                StringBuilder line = new StringBuilder(species == 1 ? "c5" : "-");
                for (int i = 1; i < notes[which][species - 1]; i++) {
                    line.append(i % 2 == 0 ? ",c5" : ",d5");
                }
                CounterpointChecker x = Check.withCantus(cantus[which]);
                x.setSpecies(species);
                Check.type(x, line.toString());
                int faults = x.counterpoint();
                CHECK.due("the faults of " + line, x.faults(0), () -> faults);
                CHECK.due("the notes of " + line, notes[which][species - 1], () -> x.count(1));
                CHECK.due("the buffer after " + line, 0, () -> x.count(8));
                CHECK.dueText("the text", line.toString(), Check.textOf(x, false));
            }
        }
        CounterpointChecker y = Check.withCantus("d4,c4");
        CHECK.due("a counterpoint that begins wrong", 1, () -> Check.type(y, "b4,c5").counterpoint());
        CHECK.due("a counterpoint that ends wrong, too", 5, () -> Check.type(y, "b4,b4").counterpoint());
        y.setWeight(14, 0);
        CHECK.due("a counterpoint without faults", 0, () -> Check.type(y, "b4,c5").counterpoint());
    }

    private static void counterpointErrors() {
        CounterpointChecker none = new CounterpointChecker();
        Check.type(none, "c4,?");
        CHECK.refused("counterpoint without a cantus", STATE, none::counterpoint);
        CHECK.due("the buffer without a cantus", 4, () -> none.count(8));
        CHECK.due("errorPosition without a cantus", -1, none::errorPosition);

        String[] texts = {"", "-", "-,", "-,c4", "-,c4,d", "-c4", "--", "-,-,c4", "-,c4,d4,", "-,c4,d4,e4", "-,c4,-",
            "c4,-,c4", "-4,c4,d4", "c4,d4,e4f4", "c4,d4"};
        int[] places = {0, 1, 2, 4, 6, 1, 1, 2, 7, 7, 5, 3, 1, 8, 5};
        CounterpointChecker x = Check.withLines(2, "d4,c4", "-,b4,c5");
        for (int i = 0; i < texts.length; i++) {
            String text = texts[i];
            CHECK.refused("counterpoint of '" + text + "'", ARGUMENT, () -> Check.type(x, text).counterpoint());
            CHECK.due("errorPosition of '" + text + "'", places[i], x::errorPosition);
            CHECK.due("the buffer after '" + text + "'", 0, () -> x.count(8));
        }
        CHECK.dueText("the counterpoint after errors", "-,b4,c5", Check.textOf(x, false));
        CounterpointChecker one = Check.withCantus("d4,c4");
        CHECK.refused("a rest in species 1", ARGUMENT, () -> Check.type(one, "-,c4").counterpoint());
        CHECK.due("its place", 0, one::errorPosition);
    }

    private static void errorPosition() {
        CounterpointChecker x = new CounterpointChecker();
        CHECK.refused("a wrong cantus", ARGUMENT, () -> Check.type(x, "c4,d").cantus());
        CHECK.due("its place", 4, x::errorPosition);
        CHECK.refused("no text is read without a cantus", STATE, x::counterpoint);
        CHECK.due("the place stays", 4, x::errorPosition);
        CHECK.refused("wrong weights", ARGUMENT, () -> Check.type(x, "leap=x").weights());
        CHECK.due("their place", 5, x::errorPosition);
        CHECK.due("a right cantus", 2, () -> Check.type(x, "d4,c4").cantus());
        CHECK.due("no place", -1, x::errorPosition);
        CHECK.refused("a wrong counterpoint", ARGUMENT, () -> Check.type(x, "d4,").counterpoint());
        CHECK.due("its place", 3, x::errorPosition);
        x.undo();
        CHECK.due("the place after undo", 3, x::errorPosition);
        CHECK.due("right weights", 1, () -> Check.type(x, "leap=1").weights());
        CHECK.due("no place", -1, x::errorPosition);
    }

    private static void species() {
        CounterpointChecker x = Check.withLines(1, "d4,c4", "b4,c5");
        CHECK.refused("species 0", ARGUMENT, () -> x.setSpecies(0));
        CHECK.refused("species 5", ARGUMENT, () -> x.setSpecies(5));
        CHECK.due("the same species", 1, () -> x.setSpecies(1));
        CHECK.due("the counterpoint stays", 2, () -> x.count(1));
        CHECK.due("another species", 1, () -> x.setSpecies(4));
        CHECK.due("the counterpoint is gone", 0, () -> x.count(1));
        CHECK.due("the cantus stays", 2, () -> x.count(0));
        CHECK.due("back to species 1", 4, () -> x.setSpecies(1));
        CHECK.due("the counterpoint is still gone", 0, () -> x.count(1));
    }

    private static void position() {
        CounterpointChecker x = Check.withLines(1, "d4,c4", "b4,c5");
        CHECK.due("below", 0, () -> x.setPosition(true) ? 1 : 0);
        CHECK.due("count(3) below", 1, () -> x.count(3));
        CHECK.due("below again", 1, () -> x.setPosition(true) ? 1 : 0);
        CHECK.due("the counterpoint stays", 2, () -> x.count(1));
        CHECK.due("above", 1, () -> x.setPosition(false) ? 1 : 0);
        CHECK.due("count(3) above", 0, () -> x.count(3));
    }

    private static void settings() {
        CounterpointChecker x = new CounterpointChecker();
        CHECK.due("the lowest pitch", 36, () -> x.set(0, 24));
        CHECK.due("the lowest pitch again", 24, () -> x.set(0, 72));
        CHECK.due("the lowest is the highest", 72, () -> x.count(4));
        CHECK.refused("the lowest above the highest", ARGUMENT, () -> x.set(0, 73));
        CHECK.refused("the highest below the lowest", ARGUMENT, () -> x.set(1, 71));
        CHECK.due("the highest pitch", 72, () -> x.set(1, 84));
        CHECK.refused("the highest pitch 85", ARGUMENT, () -> x.set(1, 85));
        CHECK.due("the lowest pitch down", 72, () -> x.set(0, 30));
        CHECK.refused("the lowest pitch 23", ARGUMENT, () -> x.set(0, 23));
        CHECK.due("the greatest width", 16, () -> x.set(2, 36));
        CHECK.due("the greatest width again", 36, () -> x.set(2, 12));
        CHECK.refused("the greatest width 11", ARGUMENT, () -> x.set(2, 11));
        CHECK.refused("the greatest width 37", ARGUMENT, () -> x.set(2, 37));
        CHECK.refused("setting -1", INDEX, () -> x.set(-1, 40));
        CHECK.refused("setting 3", INDEX, () -> x.set(3, 999));
        CHECK.due("count(4)", 30, () -> x.count(4));
        CHECK.due("count(5)", 84, () -> x.count(5));
        CHECK.due("count(6)", 12, () -> x.count(6));
        CHECK.due("the changes", 6, () -> x.count(9));
    }

    private static void setNote() {
        CounterpointChecker none = Check.withCantus("d4,c4");
        CHECK.refused("setNote without a counterpoint", STATE, () -> none.setNote(9, 9, 9));
        CounterpointChecker x = Check.withLines(2, "d4,c4", "-,b4,c5");
        CHECK.refused("setNote in bar -1", INDEX, () -> x.setNote(-1, 0, 85));
        CHECK.refused("setNote in bar 2", INDEX, () -> x.setNote(2, 0, 85));
        CHECK.refused("setNote on beat -1", INDEX, () -> x.setNote(0, -1, 85));
        CHECK.refused("setNote on beat 2", INDEX, () -> x.setNote(0, 2, 999));
        CHECK.refused("setNote on beat 1 of the last bar", INDEX, () -> x.setNote(1, 1, 85));
        CHECK.refused("setNote of 41", ARGUMENT, () -> x.setNote(0, 1, 41));
        CHECK.refused("setNote of 147 on a rest", ARGUMENT, () -> x.setNote(0, 0, 147));
        CHECK.refused("setNote on a rest", ELEMENT, () -> x.setNote(0, 0, 85));
        CHECK.due("setNote of 42", 103, () -> x.setNote(0, 1, 42));
        CHECK.due("setNote of 146", 42, () -> x.setNote(0, 1, 146));
        CHECK.due("setNote in the last bar", 106, () -> x.setNote(1, 0, 85));
        CHECK.dueText("the line", "-,b#6,c4", Check.textOf(x, false));
    }

    private static void note() {
        CounterpointChecker x = new CounterpointChecker();
        CHECK.refused("note without a cantus", STATE, () -> x.note(5, -1));
        Check.type(x, "d4,c4").cantus();
        CHECK.due("note of the cantus", 88, () -> x.note(0, -1));
        CHECK.refused("note of the cantus in bar 2", INDEX, () -> x.note(2, -1));
        CHECK.refused("note of the cantus in bar -1", INDEX, () -> x.note(-1, -1));
        CHECK.refused("note without a counterpoint", STATE, () -> x.note(9, 0));
        CHECK.refused("beat -2 without a counterpoint", STATE, () -> x.note(0, -2));
        x.setSpecies(3);
        Check.type(x, "-,a4,b4,c#5,d5").counterpoint();
        CHECK.due("note of a rest", -1, () -> x.note(0, 0));
        CHECK.due("note on beat 3", 107, () -> x.note(0, 3));
        CHECK.due("note in the last bar", 109, () -> x.note(1, 0));
        CHECK.refused("note on beat 4", INDEX, () -> x.note(0, 4));
        CHECK.refused("note on beat -2", INDEX, () -> x.note(0, -2));
        CHECK.refused("note on beat 1 of the last bar", INDEX, () -> x.note(1, 1));
        CHECK.refused("note in bar 2", INDEX, () -> x.note(2, 0));
        CHECK.refused("note in bar -1", INDEX, () -> x.note(-1, 0));
        CHECK.refused("note in a far bar", INDEX, () -> x.note(Integer.MAX_VALUE, Integer.MAX_VALUE));
    }

    private static void noteOf() {
        String letters = "cdefgab";
        int[] heights = {0, 2, 4, 5, 7, 9, 11};
        for (int octave = 2; octave <= 6; octave++) {
            CounterpointChecker x = new CounterpointChecker();
            for (int letter = 0; letter < 7; letter++) {
                for (int alteration = -1; alteration <= 1; alteration++) {
                    int step = 7 * octave + letter;
                    int code = 3 * step + alteration + 1;
                    int[] want = {step, alteration, 12 * octave + heights[letter] + alteration, letter, octave};
                    for (int what = 0; what < 5; what++) {
                        int asked = what;
                        String call = "noteOf(" + letters.charAt(letter) + octave + alteration + ", " + what + ")";
                        CHECK.due(call, want[what], () -> x.noteOf(code, asked));
                    }
                }
            }
        }
        CounterpointChecker x = new CounterpointChecker();
        CHECK.refused("noteOf(41, 0)", INDEX, () -> x.noteOf(41, 0));
        CHECK.refused("noteOf(147, 5)", INDEX, () -> x.noteOf(147, 5));
        CHECK.refused("noteOf(-1, 0)", INDEX, () -> x.noteOf(-1, 0));
        CHECK.refused("noteOf(85, 5)", ARGUMENT, () -> x.noteOf(85, 5));
        CHECK.refused("noteOf(85, -1)", ARGUMENT, () -> x.noteOf(85, -1));
    }

    private static void text() {
        CounterpointChecker x = new CounterpointChecker();
        CHECK.refused("text without a cantus", STATE, () -> x.text(true, -1));
        Check.type(x, "d4,c#4,bb3").cantus();
        CHECK.due("the length", 10, () -> x.text(true, -1));
        CHECK.dueText("the cantus", "d4,c#4,bb3", Check.textOf(x, true));
        CHECK.refused("text behind the end", INDEX, () -> x.text(true, 10));
        CHECK.refused("text at -2", INDEX, () -> x.text(true, -2));
        CHECK.refused("text without a counterpoint", STATE, () -> x.text(false, 99));
        x.setSpecies(4);
        Check.type(x, "-,b4,c5,fb6,g#2").counterpoint();
        CHECK.dueText("the counterpoint", "-,b4,c5,fb6,g#2", Check.textOf(x, false));
        CHECK.due("its length", 15, () -> x.text(false, -1));
        CHECK.refused("behind its end", INDEX, () -> x.text(false, 15));
    }
}
