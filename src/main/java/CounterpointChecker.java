import java.util.NoSuchElementException;

/** A checker of counterpoint. What each call does is said in ../shared/DOC.md, promise by promise. */
public final class CounterpointChecker {
    private static final int REST = -1;
    private static final int NOWHERE = -1;
    private static final int NO_FAULT = -1;
    private static final int ANY = -1;
    private static final int LEAST_CODE = 42;
    private static final int MOST_CODE = 146;
    private static final int LEAST_BARS = 2;
    private static final int MOST_BARS = 12;
    private static final int MOST_NOTES = 45;
    private static final int MOST_SIGNS = 180;
    private static final int MOST_CHANGES = 6;
    private static final int MOST_TRIALS = 3000;
    private static final int MOST_WEIGHT = 9;

    private static final int LOWEST = 0;
    private static final int HIGHEST = 1;
    private static final int WIDEST = 2;
    private static final int SETTINGS = 3;
    private static final int[] LEAST_VALUES = {24, 24, 12};
    private static final int[] MOST_VALUES = {84, 84, 36};

    private static final int RANGE = 1;
    private static final int LEAP = 2;
    private static final int RECOVER = 3;
    private static final int REPEAT = 4;
    private static final int OUTLINE = 5;
    private static final int CLIMAX = 6;
    private static final int STRONG = 7;
    private static final int WEAK = 8;
    private static final int PARALLEL = 9;
    private static final int DIRECT = 10;
    private static final int UNISON = 11;
    private static final int CROSS = 12;
    private static final int SPACE = 13;
    private static final int BEGIN = 14;
    private static final int CADENCE = 15;
    private static final int SUSPEND = 16;
    private static final int RULES = 16;

    private static final String LETTERS = "cdefgab";

    private final Judge judge = new Judge();
    private final Sheet now = judge.sheet;
    private final Sheet saved = new Sheet();
    private final History history = new History();
    private final Seeker seeker = new Seeker();
    private final Line suggestion = new Line();
    private final Reader reader = new Reader();
    private final Page buffer = reader.source;
    private final Page page = new Page();
    private boolean isSaved = false;
    private int errorPlace = NOWHERE;

    public CounterpointChecker() {
    }

    // Lines.

    public int append(int packed) throws IllegalArgumentException, IllegalStateException {
        int signs = 0;
        for (int shift = 24; shift >= 0; shift -= 8) {
            int sign = (packed >> shift) & 255;
            if (sign != 0 && (sign < 33 || sign > 126)) {
                throw new IllegalArgumentException("a byte is no character of a text");
            }
            signs += sign == 0 ? 0 : 1;
        }
        if (buffer.size() + signs > MOST_SIGNS) {
            throw new IllegalStateException("the buffer would be too long");
        }
        for (int shift = 24; shift >= 0; shift -= 8) {
            int sign = (packed >> shift) & 255;
            if (sign != 0) {
                buffer.put((char) sign);
            }
        }
        return buffer.size();
    }

    public int cantus() throws IllegalArgumentException {
        errorPlace = reader.readLine(false, LEAST_BARS, MOST_BARS);
        buffer.clear();
        if (errorPlace != NOWHERE) {
            throw new IllegalArgumentException("the text is no cantus");
        }
        history.keep(now);
        now.given.copyFrom(reader.line());
        now.made.clear();
        return now.given.size();
    }

    public int counterpoint() throws IllegalStateException, IllegalArgumentException {
        requireCantus();
        int due = now.notesDue();
        errorPlace = reader.readLine(now.species() != 1, due, due);
        buffer.clear();
        if (errorPlace != NOWHERE) {
            throw new IllegalArgumentException("the text is no counterpoint for this cantus");
        }
        history.keep(now);
        now.made.copyFrom(reader.line());
        return judge.tally(ANY, ANY);
    }

    public int errorPosition() {
        return errorPlace;
    }

    public int setSpecies(int species) throws IllegalArgumentException {
        if (species < 1 || species > 4) {
            throw new IllegalArgumentException("no such species");
        }
        history.keep(now);
        int previous = now.species();
        now.makeSpecies(species);
        return previous;
    }

    public boolean setPosition(boolean below) {
        history.keep(now);
        boolean previous = now.isBelow();
        now.makeBelow(below);
        return previous;
    }

    public int set(int what, int value) throws IndexOutOfBoundsException, IllegalArgumentException {
        if (what < 0 || what >= SETTINGS) {
            throw new IndexOutOfBoundsException("no such setting");
        }
        if (!now.allowsSetting(what, value)) {
            throw new IllegalArgumentException("no such value for this setting");
        }
        history.keep(now);
        int previous = now.settingOf(what);
        now.makeSetting(what, value);
        return previous;
    }

    public int setNote(int bar, int beat, int code) throws IllegalStateException, IndexOutOfBoundsException,
            IllegalArgumentException, NoSuchElementException {
        int index = requirePlace(bar, beat);
        requireCode(code);
        requireNote(index);
        history.keep(now);
        return now.made.put(index, code);
    }

    public int note(int bar, int beat) throws IllegalStateException, IndexOutOfBoundsException {
        requireCantus();
        if (beat != -1) {
            return now.made.at(requirePlace(bar, beat));
        }
        requireBar(bar);
        return now.given.at(bar);
    }

    public int noteOf(int code, int what) throws IndexOutOfBoundsException, IllegalArgumentException {
        if (!isCode(code)) {
            throw new IndexOutOfBoundsException("there is no note with this code");
        }
        switch (what) {
            case 0: return stepOf(code);
            case 1: return alterationOf(code);
            case 2: return pitchOf(code);
            case 3: return stepOf(code) % 7;
            case 4: return stepOf(code) / 7;
            default: throw new IllegalArgumentException("no such property of a note");
        }
    }

    public int text(boolean isCantus, int index) throws IllegalStateException, IndexOutOfBoundsException {
        Line line = isCantus ? now.given : now.made;
        if (line.size() == 0) {
            throw new IllegalStateException("there is no such line");
        }
        page.clear();
        page.putLine(line);
        return signOfPage(index);
    }

    // Intervals and motions.

    public int interval(int bar, int beat, int what) throws IllegalStateException, IndexOutOfBoundsException,
            NoSuchElementException, IllegalArgumentException {
        int index = requirePlace(bar, beat);
        requireNote(index);
        Span harmony = judge.harmonyAt(index);
        switch (what) {
            case 0: return harmony.steps();
            case 1: return harmony.width();
            case 2: return harmony.sound();
            case 3: return harmony.perfectClass();
            case 4: return now.isTied(index) ? 1 : 0;
            default: throw new IllegalArgumentException("no such property of an interval");
        }
    }

    public int motion(int bar) throws IllegalStateException, IndexOutOfBoundsException, NoSuchElementException {
        requireCounterpoint();
        if (bar < 0 || bar >= now.given.size() - 1) {
            throw new IndexOutOfBoundsException("no such bar, or the last one");
        }
        int kind = judge.motionFrom(bar);
        if (kind == NOWHERE) {
            throw new NoSuchElementException("there is a rest");
        }
        return kind;
    }

    public int motions(int kind) throws IllegalStateException, IllegalArgumentException {
        requireCounterpoint();
        if (kind < 0 || kind > 4) {
            throw new IllegalArgumentException("no such kind of motion");
        }
        return judge.motionsOf(kind);
    }

    public int contraryBits() throws IllegalStateException, ArithmeticException {
        requireCounterpoint();
        int all = judge.motionsOf(ANY);
        if (all == 0) {
            throw new ArithmeticException("there are no motions");
        }
        return (int) quotientBits(judge.motionsOf(2), all, 23, 127);
    }

    public long meanBits() throws IllegalStateException {
        requireCounterpoint();
        int widths = 0;
        int notes = 0;
        for (int index = 0; index < now.made.size(); index++) {
            if (now.made.at(index) != REST) {
                widths += judge.harmonyAt(index).width();
                notes++;
            }
        }
        return quotientBits(widths, notes, 52, 1023);
    }

    // Rules and faults.

    public int setWeight(int rule, int weight) throws IndexOutOfBoundsException, IllegalArgumentException {
        requireRule(rule);
        if (weight < 0 || weight > MOST_WEIGHT) {
            throw new IllegalArgumentException("no such weight");
        }
        history.keep(now);
        int previous = now.weightOf(rule);
        now.makeWeight(rule, weight);
        return previous;
    }

    public int weights() throws IllegalArgumentException {
        errorPlace = reader.readWeights();
        buffer.clear();
        if (errorPlace != NOWHERE) {
            throw new IllegalArgumentException("the text is none of weights");
        }
        history.keep(now);
        for (int rule = 1; rule <= RULES; rule++) {
            int weight = reader.weightFor(rule);
            if (weight != Reader.UNNAMED) {
                now.makeWeight(rule, weight);
            }
        }
        return reader.names();
    }

    public int weight(int rule) throws IndexOutOfBoundsException {
        requireRule(rule);
        return now.weightOf(rule);
    }

    public int fault(int index, int what) throws IllegalStateException, NoSuchElementException,
            IllegalArgumentException {
        requireFault(index);
        switch (what) {
            case 0: return judge.foundRule();
            case 1: return judge.bar();
            case 2: return judge.beat();
            case 3: return judge.foundDetail();
            default: throw new IllegalArgumentException("no such part of a fault");
        }
    }

    public int explain(int fault, int index) throws IllegalStateException, NoSuchElementException,
            IndexOutOfBoundsException {
        requireFault(fault);
        page.clear();
        page.putNumber(judge.bar() + 1);
        page.put('.');
        page.putNumber(judge.beat() + 1);
        page.put(':');
        page.putWord(nameOf(judge.foundRule()));
        page.put('=');
        page.putNumber(judge.foundDetail());
        return signOfPage(index);
    }

    public int faults(int rule) throws IllegalStateException, IndexOutOfBoundsException {
        requireCounterpoint();
        if (rule == 0) {
            return judge.tally(ANY, ANY);
        }
        requireRule(rule);
        return judge.tally(rule, ANY);
    }

    public int faultsIn(int bar) throws IllegalStateException, IndexOutOfBoundsException {
        requireCounterpoint();
        requireBar(bar);
        return judge.tally(ANY, bar);
    }

    public int cost() throws IllegalStateException {
        requireCounterpoint();
        return judge.wholeCost();
    }

    // Suggestions.

    public int better(int bar, int beat) throws IllegalStateException, IndexOutOfBoundsException,
            NoSuchElementException {
        int index = requirePlace(bar, beat);
        requireNote(index);
        int best = NOWHERE;
        int least = 0;
        for (int code = LEAST_CODE; code <= MOST_CODE; code++) {
            if (now.allowsPitch(pitchOf(code))) {
                int sum = costIfReplaced(index, code);
                if (best == NOWHERE || sum < least) {
                    best = code;
                    least = sum;
                }
            }
        }
        if (best == NOWHERE) {
            throw new NoSuchElementException("no note is allowed");
        }
        return best;
    }

    public int costWith(int bar, int beat, int code) throws IllegalStateException, IndexOutOfBoundsException,
            IllegalArgumentException, NoSuchElementException {
        int index = requirePlace(bar, beat);
        requireCode(code);
        requireNote(index);
        return costIfReplaced(index, code);
    }

    public int search() throws IllegalStateException, UnsupportedOperationException {
        requireCantus();
        if (now.species() != 1) {
            throw new IllegalStateException("lines are searched for in species 1");
        }
        int trials = seeker.seek(now);
        if (trials == NOWHERE) {
            throw new UnsupportedOperationException("no line is found");
        }
        suggestion.copyFrom(seeker.line());
        return trials;
    }

    public int suggested(int bar) throws IllegalStateException, IndexOutOfBoundsException {
        requireSuggestion();
        if (bar < 0 || bar >= suggestion.size()) {
            throw new IndexOutOfBoundsException("the suggestion has no such bar");
        }
        return suggestion.at(bar);
    }

    public int adopt() throws IllegalStateException, UnsupportedOperationException {
        requireSuggestion();
        requireCantus();
        if (now.species() != 1 || suggestion.size() != now.given.size()) {
            throw new UnsupportedOperationException("the suggestion does not fit the cantus");
        }
        history.keep(now);
        now.made.copyFrom(suggestion);
        return judge.tally(ANY, ANY);
    }

    // Counts, undo, snapshots.

    public int count(int what) throws IllegalArgumentException {
        switch (what) {
            case 0: return now.given.size();
            case 1: return now.made.size();
            case 2: return now.species();
            case 3: return now.isBelow() ? 1 : 0;
            case 4: return now.settingOf(LOWEST);
            case 5: return now.settingOf(HIGHEST);
            case 6: return now.settingOf(WIDEST);
            case 7: return now.sumOfWeights();
            case 8: return buffer.size();
            case 9: return history.size();
            case 10: return suggestion.size();
            default: throw new IllegalArgumentException("no such count");
        }
    }

    public int undo() throws IllegalStateException {
        if (history.size() == 0) {
            throw new IllegalStateException("there is no change to take back");
        }
        history.takeBack(now);
        return history.size();
    }

    public int save() {
        saved.copyFrom(now);
        isSaved = true;
        return now.given.size();
    }

    public int restore() throws IllegalStateException {
        if (!isSaved) {
            throw new IllegalStateException("nothing was saved");
        }
        history.keep(now);
        now.copyFrom(saved);
        return now.given.size();
    }

    // What the calls of the face ask for before they answer.

    private void requireCantus() {
        if (now.given.size() == 0) {
            throw new IllegalStateException("there is no cantus");
        }
    }

    private void requireCounterpoint() {
        if (now.made.size() == 0) {
            throw new IllegalStateException("there is no counterpoint");
        }
    }

    private void requireSuggestion() {
        if (suggestion.size() == 0) {
            throw new IllegalStateException("there is no suggestion");
        }
    }

    private void requireBar(int bar) {
        if (bar < 0 || bar >= now.given.size()) {
            throw new IndexOutOfBoundsException("no such bar");
        }
    }

    private int requirePlace(int bar, int beat) {
        requireCounterpoint();
        int index = now.placeOf(bar, beat);
        if (index == NOWHERE) {
            throw new IndexOutOfBoundsException("no such bar or beat");
        }
        return index;
    }

    private void requireNote(int index) {
        if (now.made.at(index) == REST) {
            throw new NoSuchElementException("there is a rest");
        }
    }

    private void requireCode(int code) {
        if (!isCode(code)) {
            throw new IllegalArgumentException("there is no note with this code");
        }
    }

    private void requireRule(int rule) {
        if (rule < 1 || rule > RULES) {
            throw new IndexOutOfBoundsException("no such rule");
        }
    }

    private void requireFault(int number) {
        requireCounterpoint();
        if (!judge.find(number)) {
            throw new NoSuchElementException("no such fault");
        }
    }

    private int signOfPage(int index) {
        if (index == -1) {
            return page.size();
        }
        if (index < 0 || index >= page.size()) {
            throw new IndexOutOfBoundsException("the text has no such index");
        }
        return page.at(index);
    }

    private int costIfReplaced(int index, int code) {
        int previous = now.made.put(index, code);
        int sum = judge.wholeCost();
        now.made.put(index, previous);
        return sum;
    }

    // Notes.

    private static boolean isCode(int code) {
        return code >= LEAST_CODE && code <= MOST_CODE;
    }

    private static int stepOf(int code) {
        return code / 3;
    }

    private static int alterationOf(int code) {
        return code % 3 - 1;
    }

    /** Calls nothing, since the deepest rows of calls end here. */
    private static int pitchOf(int code) {
        int letter = code / 3 % 7;
        // Each letter is two half tones above the one before it, but f, the one with the number 3, just one.
        int height = letter < 3 ? 2 * letter : 2 * letter - 1;
        return 12 * (code / 21) + height + code % 3 - 1;
    }

    private static String nameOf(int rule) {
        switch (rule) {
            case RANGE: return "range";
            case LEAP: return "leap";
            case RECOVER: return "recover";
            case REPEAT: return "repeat";
            case OUTLINE: return "outline";
            case CLIMAX: return "climax";
            case STRONG: return "strong";
            case WEAK: return "weak";
            case PARALLEL: return "parallel";
            case DIRECT: return "direct";
            case UNISON: return "unison";
            case CROSS: return "cross";
            case SPACE: return "space";
            case BEGIN: return "begin";
            case CADENCE: return "cadence";
            case SUSPEND: return "suspend";
            default: return "";
        }
    }

    /**
     * The bits of numerator / denominator as a binary float with so many bits of fraction and this bias, rounded
     * half to even. Made from integers, since the library's functions for bits are not among those allowed; both
     * numbers are below 4096 here, so that nothing overflows.
     */
    private static long quotientBits(long numerator, long denominator, int fraction, int bias) {
        if (numerator <= 0 || denominator <= 0) {
            return 0;
        }
        long scaled = numerator;
        int exponent = fraction;
        for (int i = 0; i < 64 && scaled / denominator < 1L << fraction; i++) {
            scaled <<= 1;
            exponent--;
        }
        long quotient = scaled / denominator;
        long rest = scaled % denominator;
        if (2 * rest > denominator || 2 * rest == denominator && (quotient & 1) == 1) {
            quotient++;
        }
        // The quotient's leading bit adds the one that is missing to the exponent, also if it was rounded up to it.
        return ((long) (exponent + bias - 1) << fraction) + quotient;
    }

    /** The codes of a line; none of them is a line that does not exist. */
    private static final class Line {
        private final int[] codes = new int[MOST_NOTES];
        private int size = 0;

        int size() {
            return size;
        }

        /** Places without a note answer as a rest does, so that moves from there are none. */
        int at(int index) {
            return index >= 0 && index < size ? codes[index] : REST;
        }

        void add(int code) {
            if (size >= 0 && size < MOST_NOTES) {
                codes[size] = code;
                size++;
            }
        }

        int put(int index, int code) {
            int previous = at(index);
            if (index >= 0 && index < size) {
                codes[index] = code;
            }
            return previous;
        }

        void clear() {
            size = 0;
        }

        void cutTo(int length) {
            size = length < 0 ? 0 : length < size ? length : size;
        }

        void copyFrom(Line other) {
            size = 0;
            for (int index = 0; index < other.size; index++) {
                add(other.at(index));
            }
        }
    }

    /** All that a change changes. */
    private static final class Sheet {
        private final Line given = new Line();
        private final Line made = new Line();
        private int species = 1;
        private boolean below = false;
        private final int[] settings = {36, 72, 16};
        private final int[] weights = {0, 1, 1, 1, 1, 1, 1, 1, 1, 1, 1, 1, 1, 1, 1, 1, 1};

        int species() {
            return species;
        }

        void makeSpecies(int other) {
            if (other != species) {
                species = other;
                made.clear();
            }
        }

        boolean isBelow() {
            return below;
        }

        void makeBelow(boolean other) {
            below = other;
        }

        int settingOf(int what) {
            return what >= 0 && what < SETTINGS ? settings[what] : 0;
        }

        boolean allowsSetting(int what, int value) {
            if (what < 0 || what >= SETTINGS || value < LEAST_VALUES[what] || value > MOST_VALUES[what]) {
                return false;
            }
            int lowest = what == LOWEST ? value : settings[LOWEST];
            int highest = what == HIGHEST ? value : settings[HIGHEST];
            return lowest <= highest;
        }

        void makeSetting(int what, int value) {
            if (what >= 0 && what < SETTINGS) {
                settings[what] = value;
            }
        }

        boolean allowsPitch(int pitch) {
            return pitch >= settings[LOWEST] && pitch <= settings[HIGHEST];
        }

        int weightOf(int rule) {
            return rule >= 1 && rule <= RULES ? weights[rule] : 0;
        }

        void makeWeight(int rule, int weight) {
            if (rule >= 1 && rule <= RULES) {
                weights[rule] = weight;
            }
        }

        int sumOfWeights() {
            int sum = 0;
            for (int rule = 1; rule <= RULES; rule++) {
                sum += weights[rule];
            }
            return sum;
        }

        // The beats of a bar are 1, 2 or 4, so that shifts and masks lead from places to bars and beats and back.

        private int beatBits() {
            return species == 1 ? 0 : species == 3 ? 2 : 1;
        }

        int barOf(int index) {
            return index >> beatBits();
        }

        int beatOf(int index) {
            return index & ((1 << beatBits()) - 1);
        }

        int firstPlaceIn(int bar) {
            return bar << beatBits();
        }

        int placeOf(int bar, int beat) {
            if (bar < 0 || bar >= given.size()) {
                return NOWHERE;
            }
            int beats = bar == given.size() - 1 ? 1 : 1 << beatBits();
            return beat >= 0 && beat < beats ? firstPlaceIn(bar) + beat : NOWHERE;
        }

        int notesDue() {
            return firstPlaceIn(given.size() - 1) + 1;
        }

        boolean isTied(int index) {
            return species == 4 && index > 0 && beatOf(index) == 0
                    && made.at(index) != REST && made.at(index) == made.at(index - 1);
        }

        void copyFrom(Sheet other) {
            given.copyFrom(other.given);
            made.copyFrom(other.made);
            species = other.species;
            below = other.below;
            for (int what = 0; what < SETTINGS; what++) {
                settings[what] = other.settings[what];
            }
            for (int rule = 1; rule <= RULES; rule++) {
                weights[rule] = other.weights[rule];
            }
        }
    }

    /** The sheets from before the latest changes, in a ring: the oldest gives its place to the newest. */
    private static final class History {
        private final Sheet[] sheets = new Sheet[MOST_CHANGES];
        private int oldest = 0;
        private int size = 0;

        private History() {
            for (int i = 0; i < MOST_CHANGES; i++) {
                sheets[i] = new Sheet();
            }
        }

        int size() {
            return size;
        }

        private Sheet sheetAt(int number) {
            return sheets[Math.floorMod(oldest + number, MOST_CHANGES)];
        }

        void keep(Sheet sheet) {
            Sheet kept = sheetAt(size);
            if (kept != null) {
                kept.copyFrom(sheet);
            }
            if (size < MOST_CHANGES) {
                size++;
            } else {
                oldest = Math.floorMod(oldest + 1, MOST_CHANGES);
            }
        }

        void takeBack(Sheet sheet) {
            if (size > 0) {
                size--;
                Sheet kept = sheetAt(size);
                if (kept != null) {
                    sheet.copyFrom(kept);
                }
            }
        }
    }

    /** A row of characters, for the buffer and for the texts that are asked for. */
    private static final class Page {
        private final char[] signs = new char[MOST_SIGNS];
        private int size = 0;

        int size() {
            return size;
        }

        /** Behind the end stands the character 0, which no text allows: errors there need no care of their own. */
        char at(int index) {
            return index >= 0 && index < size && index < MOST_SIGNS ? signs[index] : (char) 0;
        }

        void clear() {
            size = 0;
        }

        void put(char sign) {
            if (size >= 0 && size < MOST_SIGNS) {
                signs[size] = sign;
                size++;
            }
        }

        void putWord(String word) {
            for (int i = 0; i < word.length(); i++) {
                put(word.charAt(i));
            }
        }

        /** Bars, beats and details have at most two digits. */
        void putNumber(int number) {
            if (number >= 10) {
                put((char) ('0' + number / 10 % 10));
            }
            put((char) ('0' + Math.floorMod(number, 10)));
        }

        void putLine(Line line) {
            for (int index = 0; index < line.size(); index++) {
                if (index > 0) {
                    put(',');
                }
                putNote(line.at(index));
            }
        }

        private void putNote(int code) {
            if (code == REST) {
                put('-');
                return;
            }
            int step = stepOf(code);
            put(LETTERS.charAt(Math.floorMod(step, 7)));
            if (alterationOf(code) != 0) {
                put(alterationOf(code) > 0 ? '#' : 'b');
            }
            put((char) ('0' + step / 7));
        }
    }

    /** Reads the texts of lines and of weights from a page of its own. */
    private static final class Reader {
        private static final int UNNAMED = -1;
        private final Page source = new Page();
        private final Line line = new Line();
        private final int[] weights = new int[RULES + 1];
        private int names = 0;
        // The first character that is not read yet; if reading fails, the one that is not allowed.
        private int place = 0;

        Line line() {
            return line;
        }

        int names() {
            return names;
        }

        int weightFor(int rule) {
            return rule >= 1 && rule <= RULES ? weights[rule] : UNNAMED;
        }

        /** The error position of the text as that of a line with so many notes. */
        int readLine(boolean canRest, int least, int most) {
            place = 0;
            line.clear();
            if (canRest && source.at(0) == '-') {
                line.add(REST);
                place = 1;
            } else if (!readNote()) {
                return place;
            }
            for (int i = 0; i < MOST_NOTES && place < source.size(); i++) {
                if (source.at(place) != ',' || line.size() >= most) {
                    return place;
                }
                place++;
                if (!readNote()) {
                    return place;
                }
            }
            return place == source.size() && line.size() >= least ? NOWHERE : place;
        }

        private boolean readNote() {
            int letter = LETTERS.indexOf(source.at(place));
            if (letter < 0) {
                return false;
            }
            place++;
            int alteration = source.at(place) == '#' ? 1 : source.at(place) == 'b' ? -1 : 0;
            if (alteration != 0) {
                place++;
            }
            int octave = source.at(place) - '0';
            if (octave < 2 || octave > 6) {
                return false;
            }
            place++;
            line.add(3 * (7 * octave + letter) + alteration + 1);
            return true;
        }

        /** The error position of the text as that of weights. */
        int readWeights() {
            place = 0;
            names = 0;
            for (int rule = 0; rule <= RULES; rule++) {
                weights[rule] = UNNAMED;
            }
            for (int i = 0; i < MOST_SIGNS; i++) {
                if (!readWeight()) {
                    return place;
                }
                if (place == source.size()) {
                    return NOWHERE;
                }
                if (source.at(place) != ',') {
                    return place;
                }
                place++;
            }
            return place;
        }

        private boolean readWeight() {
            int rule = ruleNamedHere();
            if (rule == 0) {
                return false;
            }
            place += nameOf(rule).length();
            if (source.at(place) != '=') {
                return false;
            }
            place++;
            int digit = source.at(place) - '0';
            if (digit < 0 || digit > 9) {
                return false;
            }
            place++;
            weights[rule] = digit;
            names++;
            return true;
        }

        private int ruleNamedHere() {
            for (int rule = 1; rule <= RULES; rule++) {
                if (isHere(nameOf(rule))) {
                    return rule;
                }
            }
            return 0;
        }

        private boolean isHere(String name) {
            for (int i = 0; i < name.length(); i++) {
                if (source.at(place + i) != name.charAt(i)) {
                    return false;
                }
            }
            char next = source.at(place + name.length());
            return next < 'a' || next > 'z';
        }
    }

    /** The interval between two notes, or the move from one to the other; none if one of them is a rest. */
    private static final class Span {
        private boolean isThere = false;
        private int steps = 0;
        private int width = 0;
        private int way = 0;
        private int perfectClass = 0;

        void measure(int from, int to) {
            isThere = from != REST && to != REST;
            int rise = isThere ? pitchOf(to) - pitchOf(from) : 0;
            steps = isThere ? Math.abs(stepOf(to) - stepOf(from)) : 0;
            width = Math.abs(rise);
            way = rise > 0 ? 1 : rise < 0 ? -1 : 0;
            perfectClass = !isThere ? 0 : leaves(0, 0) ? 8 : leaves(4, 7) ? 5 : 0;
        }

        boolean isThere() {
            return isThere;
        }

        int steps() {
            return steps;
        }

        int width() {
            return width;
        }

        /** 1 if it leads up, -1 if it leads down, otherwise 0. */
        int way() {
            return way;
        }

        boolean isStep() {
            return steps == 1;
        }

        boolean isLeap() {
            return steps > 1;
        }

        boolean goesWith(Span other) {
            return way != 0 && way == other.way;
        }

        boolean goesAgainst(Span other) {
            return way != 0 && way == -other.way;
        }

        private boolean leaves(int stepsLeft, int widthLeft) {
            return steps % 7 == stepsLeft && width % 12 == widthLeft;
        }

        /** 8 or 5, or 0 if it is not perfect. */
        int perfectClass() {
            return perfectClass;
        }

        boolean isConsonant() {
            return perfectClass != 0 || leaves(2, 3) || leaves(2, 4) || leaves(5, 8) || leaves(5, 9);
        }

        /** 2 for a perfect interval, 1 for another consonant one, otherwise 0. */
        int sound() {
            return perfectClass != 0 ? 2 : isConsonant() ? 1 : 0;
        }

        boolean isMelodious() {
            switch (steps) {
                case 0: return width == 0;
                case 1: return width == 1 || width == 2;
                case 2: return width == 3 || width == 4;
                case 3: return width == 5;
                case 4: return width == 7;
                case 5: return width == 8 && way > 0;
                case 7: return width == 12;
                default: return false;
            }
        }
    }

    /** Finds the faults of the counterpoint on a sheet of its own, looking at one note after the other. */
    private static final class Judge {
        private final Sheet sheet = new Sheet();
        // The intervals of the note looked at, of the next one, and of the first and the last one of the bar before.
        private final Span harmony = new Span();
        private final Span nextHarmony = new Span();
        private final Span openingHarmony = new Span();
        private final Span closingHarmony = new Span();
        // The moves to the note, the one before that, the one from the note, and that of the cantus to this bar.
        private final Span arrival = new Span();
        private final Span approach = new Span();
        private final Span departure = new Span();
        private final Span cantusMove = new Span();
        private int index = 0;
        private int bar = 0;
        private int beat = 0;
        private int code = REST;
        private int pitch = 0;
        private boolean tied = false;
        private int climaxPlace = NOWHERE;
        private int climaxNotes = 0;
        private int foundRule = 0;
        private int foundDetail = 0;

        int bar() {
            return bar;
        }

        int beat() {
            return beat;
        }

        int foundRule() {
            return foundRule;
        }

        int foundDetail() {
            return foundDetail;
        }

        Span harmonyAt(int place) {
            measureHarmony(harmony, place);
            return harmony;
        }

        private void measureHarmony(Span span, int place) {
            span.measure(sheet.given.at(sheet.barOf(place)), sheet.made.at(place));
        }

        /** The kind of the motion from this bar to the next one, or NOWHERE if there is a rest. */
        int motionFrom(int from) {
            int here = sheet.made.at(sheet.firstPlaceIn(from));
            arrival.measure(here, sheet.made.at(sheet.firstPlaceIn(from + 1)));
            cantusMove.measure(sheet.given.at(from), sheet.given.at(from + 1));
            if (!arrival.isThere() || !cantusMove.isThere()) {
                return NOWHERE;
            }
            if (arrival.way() == 0 || cantusMove.way() == 0) {
                return arrival.way() == cantusMove.way() ? 0 : 1;
            }
            if (arrival.goesAgainst(cantusMove)) {
                return 2;
            }
            return arrival.width() == cantusMove.width() ? 4 : 3;
        }

        int motionsOf(int kind) {
            int number = 0;
            for (int from = 0; from < sheet.given.size() - 1; from++) {
                int one = motionFrom(from);
                if (one != NOWHERE && (kind == ANY || kind == one)) {
                    number++;
                }
            }
            return number;
        }

        int wholeCost() {
            int sum = 0;
            survey();
            for (int place = 0; place < sheet.made.size(); place++) {
                look(place);
                for (int rule = 1; rule <= RULES; rule++) {
                    if (detailOf(rule) != NO_FAULT) {
                        sum += sheet.weightOf(rule);
                    }
                }
            }
            return sum;
        }

        /** The number of the faults of a rule in a bar, each of which can be ANY. */
        int tally(int wantedRule, int wantedBar) {
            int number = 0;
            survey();
            for (int place = 0; place < sheet.made.size(); place++) {
                look(place);
                for (int rule = 1; rule <= RULES; rule++) {
                    boolean wanted = (wantedRule == ANY || wantedRule == rule)
                            && (wantedBar == ANY || wantedBar == bar);
                    if (wanted && detailOf(rule) != NO_FAULT) {
                        number++;
                    }
                }
            }
            return number;
        }

        /** Stops at the fault with this number, whose rule, bar, beat and detail can be asked for then. */
        boolean find(int number) {
            int passed = 0;
            survey();
            for (int place = 0; place < sheet.made.size(); place++) {
                look(place);
                for (int rule = 1; rule <= RULES; rule++) {
                    int detail = detailOf(rule);
                    if (detail != NO_FAULT && passed == number) {
                        foundRule = rule;
                        foundDetail = detail;
                        return true;
                    }
                    passed += detail != NO_FAULT ? 1 : 0;
                }
            }
            return false;
        }

        /** Whether the last note of a line that is still growing has no fault that the rest could not mend. */
        boolean lastNoteFits() {
            look(sheet.made.size() - 1);
            for (int rule = 1; rule <= RULES; rule++) {
                if (rule != CLIMAX && rule != CADENCE && detailOf(rule) != NO_FAULT) {
                    return false;
                }
            }
            return true;
        }

        /** Finds what the rule of the climax says of the whole line, once for all its notes. */
        private void survey() {
            int top = 0;
            for (int place = 0; place < sheet.made.size(); place++) {
                if (sheet.made.at(place) != REST) {
                    top = Math.max(top, pitchOf(sheet.made.at(place)));
                }
            }
            boolean wasReached = false;
            climaxPlace = NOWHERE;
            climaxNotes = 0;
            for (int place = 0; place < sheet.made.size(); place++) {
                int note = sheet.made.at(place);
                if (note != REST && pitchOf(note) == top) {
                    boolean isTied = sheet.isTied(place);
                    if (wasReached && !isTied && climaxPlace == NOWHERE) {
                        climaxPlace = place;
                    }
                    climaxNotes += isTied ? 0 : 1;
                    wasReached = true;
                }
            }
        }

        private void look(int place) {
            index = place;
            bar = sheet.barOf(place);
            beat = sheet.beatOf(place);
            code = sheet.made.at(place);
            pitch = code == REST ? 0 : pitchOf(code);
            tied = sheet.isTied(place);
            measureHarmony(harmony, place);
            measureHarmony(nextHarmony, place + 1);
            measureHarmony(openingHarmony, sheet.firstPlaceIn(bar - 1));
            measureHarmony(closingHarmony, sheet.firstPlaceIn(bar) - 1);
            arrival.measure(sheet.made.at(place - 1), code);
            approach.measure(sheet.made.at(place - 2), sheet.made.at(place - 1));
            departure.measure(code, sheet.made.at(place + 1));
            cantusMove.measure(sheet.given.at(bar - 1), sheet.given.at(bar));
        }

        /** The detail of the fault that the rule finds at the note looked at, or NO_FAULT. */
        private int detailOf(int rule) {
            if (code == REST || sheet.weightOf(rule) == 0) {
                return NO_FAULT;
            }
            switch (rule) {
                case RANGE: return sheet.allowsPitch(pitch) ? NO_FAULT : pitch;
                case LEAP: return arrival.isThere() && !arrival.isMelodious() ? arrival.width() : NO_FAULT;
                case RECOVER: return isNotRecovered() ? approach.steps() : NO_FAULT;
                case REPEAT: return code == sheet.made.at(index - 1) && !tied ? 0 : NO_FAULT;
                case OUTLINE: return outline();
                case CLIMAX: return index == climaxPlace ? climaxNotes : NO_FAULT;
                case STRONG: return beat == 0 && !harmony.isConsonant() && !tied ? harmony.width() : NO_FAULT;
                case WEAK: return isWeakDissonance() ? harmony.width() : NO_FAULT;
                case PARALLEL: return isParallel() ? harmony.perfectClass() : NO_FAULT;
                case DIRECT: return isDirect() ? harmony.perfectClass() : NO_FAULT;
                case UNISON: return isInnerUnison() ? 0 : NO_FAULT;
                case CROSS: return harmony.way() == (sheet.isBelow() ? 1 : -1) ? harmony.width() : NO_FAULT;
                case SPACE: return harmony.width() > sheet.settingOf(WIDEST) ? harmony.width() : NO_FAULT;
                case BEGIN: return isBadBegin() ? harmony.width() : NO_FAULT;
                case CADENCE: return cadence();
                case SUSPEND: return isBadSuspension() ? harmony.width() : NO_FAULT;
                default: return NO_FAULT;
            }
        }

        private boolean isNotRecovered() {
            return arrival.isThere() && approach.isThere() && approach.steps() >= 4
                    && !(arrival.isStep() && arrival.goesAgainst(approach));
        }

        private int outline() {
            int sum = approach.steps() + arrival.steps();
            boolean leapsOn = approach.isLeap() && arrival.isLeap() && arrival.goesWith(approach);
            return leapsOn && (sum == 6 || sum > 7) ? sum : NO_FAULT;
        }

        private boolean isWeakDissonance() {
            if (beat == 0 || harmony.isConsonant()) {
                return false;
            }
            boolean steps = arrival.isStep() && departure.isStep();
            boolean isPassing = steps && departure.goesWith(arrival);
            boolean isNeighbour = steps && sheet.made.at(index - 1) == sheet.made.at(index + 1);
            switch (sheet.species()) {
                case 2: return !isPassing;
                case 3: return !isPassing && !isNeighbour;
                default: return true;
            }
        }

        private boolean isParallel() {
            return beat == 0 && (isParallelFrom(openingHarmony, sheet.firstPlaceIn(bar - 1))
                    || isParallelFrom(closingHarmony, index - 1));
        }

        /** Whether a perfect interval of the bar before, that of the note at this place, is moved to this one. */
        private boolean isParallelFrom(Span before, int place) {
            return before.perfectClass() != 0 && before.perfectClass() == harmony.perfectClass()
                    && pitchOf(sheet.made.at(place)) != pitch && cantusMove.way() != 0;
        }

        private boolean isDirect() {
            if (beat != 0 || harmony.perfectClass() == 0 || !arrival.goesWith(cantusMove)) {
                return false;
            }
            boolean upperLeaps = harmony.way() >= 0 ? arrival.isLeap() : cantusMove.isLeap();
            return upperLeaps && !isParallelFrom(closingHarmony, index - 1);
        }

        private boolean isInnerUnison() {
            return beat == 0 && harmony.width() == 0 && bar > 0 && bar < sheet.given.size() - 1;
        }

        private boolean isBadBegin() {
            int first = sheet.made.at(0) == REST ? 1 : 0;
            return index == first && harmony.perfectClass() != 8 && (sheet.isBelow() || harmony.perfectClass() != 5);
        }

        /** The number of the first condition of a cadence that does not hold, or NO_FAULT. */
        private int cadence() {
            if (index != sheet.made.size() - 1) {
                return NO_FAULT;
            }
            if (harmony.perfectClass() != 8) {
                return 1;
            }
            if (!arrival.isStep()) {
                return 2;
            }
            if (!cantusMove.isStep() || !cantusMove.goesAgainst(arrival)) {
                return 3;
            }
            return (arrival.way() > 0 ? arrival.width() : cantusMove.width()) == 1 ? NO_FAULT : 4;
        }

        private boolean isBadSuspension() {
            if (!tied || harmony.isConsonant()) {
                return false;
            }
            int next = sheet.made.at(index + 1);
            if (next == REST || stepOf(next) != stepOf(code) - 1) {
                return true;
            }
            return !nextHarmony.isConsonant();
        }
    }

    /** Searches for a line without faults in species 1, on a sheet of its own. */
    private static final class Seeker {
        private final Judge judge = new Judge();
        private final Sheet sheet = judge.sheet;

        Line line() {
            return sheet.made;
        }

        /** The number of trials with which a line is found, or NOWHERE. */
        int seek(Sheet from) {
            sheet.copyFrom(from);
            sheet.made.clear();
            int bar = 0;
            int next = LEAST_CODE;
            int trials = 0;
            // Each bar that is left without success was entered by a trial, so that twice the trials are enough.
            for (int turn = 0; turn <= 2 * MOST_TRIALS && bar >= 0 && trials < MOST_TRIALS; turn++) {
                int candidate = candidateFrom(bar, next);
                if (candidate == NOWHERE) {
                    bar--;
                    next = sheet.made.at(bar) + 1;
                } else {
                    trials++;
                    next = candidate + 1;
                    if (fits(bar, candidate)) {
                        if (bar == sheet.given.size() - 1) {
                            return trials;
                        }
                        bar++;
                        next = LEAST_CODE;
                    }
                }
            }
            return NOWHERE;
        }

        private int candidateFrom(int bar, int least) {
            for (int code = least; code <= MOST_CODE; code++) {
                int alteration = alterationOf(code);
                boolean isNamed = alteration == 0 || alteration == 1 && bar == sheet.given.size() - 2;
                if (isNamed && sheet.allowsPitch(pitchOf(code))) {
                    return code;
                }
            }
            return NOWHERE;
        }

        private boolean fits(int bar, int code) {
            sheet.made.cutTo(bar);
            sheet.made.add(code);
            if (!judge.lastNoteFits()) {
                return false;
            }
            return bar < sheet.given.size() - 1 || judge.tally(ANY, ANY) == 0;
        }
    }
}
