import java.util.ArrayDeque;
import java.util.ArrayList;
import java.util.Deque;
import java.util.List;
import java.util.NoSuchElementException;
import java.util.regex.Matcher;
import java.util.regex.Pattern;

/**
 * A second reading of the document, plain and slow, with which RandomRunsTest compares the class. It shares no code
 * with it: texts are read by patterns, states are never changed but replaced, and faults are lists.
 */
final class Model {
    static final List<String> NAMES = List.of("range", "leap", "recover", "repeat", "outline", "climax", "strong",
        "weak", "parallel", "direct", "unison", "cross", "space", "begin", "cadence", "suspend");
    static final int TRIALS = 3000;

    record Note(char letter, int octave, int alteration) {
        static Note of(int code) {
            return new Note("cdefgab".charAt(code / 3 % 7), code / 21, code % 3 - 1);
        }

        int number() {
            return "cdefgab".indexOf(letter);
        }

        int step() {
            return 7 * octave + number();
        }

        int pitch() {
            return 12 * octave + new int[] {0, 2, 4, 5, 7, 9, 11}[number()] + alteration;
        }

        int code() {
            return 3 * step() + alteration + 1;
        }

        String spelled() {
            return letter + (alteration == 1 ? "#" : alteration == -1 ? "b" : "") + octave;
        }
    }

    record Fault(int rule, int bar, int beat, int detail) {
    }

    record Move(int steps, int width, int direction) {
        static Move between(Note from, Note to) {
            if (from == null || to == null) {
                return null;
            }
            return new Move(Math.abs(to.step() - from.step()), Math.abs(to.pitch() - from.pitch()),
                Integer.signum(to.pitch() - from.pitch()));
        }

        boolean step() {
            return steps == 1;
        }

        boolean leap() {
            return steps > 1;
        }

        int classOf() {
            return steps % 7 == 0 && width % 12 == 0 ? 8 : steps % 7 == 4 && width % 12 == 7 ? 5 : 0;
        }

        boolean consonant() {
            String rests = steps % 7 + " " + width % 12;
            return List.of("0 0", "4 7", "2 3", "2 4", "5 8", "5 9").contains(rests);
        }
    }

    /** Null in a line is a rest; a line that is null is none. */
    record State(List<Note> cantus, List<Note> voice, int species, boolean below, List<Integer> settings,
            List<Integer> weights) {
        State withVoice(List<Note> other) {
            return new State(cantus, other, species, below, settings, weights);
        }

        State withWeights(List<Integer> other) {
            return new State(cantus, voice, species, below, settings, other);
        }

        int beats() {
            return new int[] {0, 1, 2, 4, 2}[species];
        }

        /** The faults if the voice were this one, which may end before the cantus does. */
        List<Fault> faults(List<Note> line) {
            List<Fault> found = new ArrayList<>();
            for (int i = 0; i < line.size(); i++) {
                for (int rule = 1; rule <= 16; rule++) {
                    if (line.get(i) != null && weights.get(rule - 1) > 0) {
                        Integer detail = new Look(this, line, i).detail(rule);
                        if (detail != null) {
                            found.add(new Fault(rule, i / beats(), i % beats(), detail));
                        }
                    }
                }
            }
            return found;
        }

        int cost(List<Note> line) {
            int sum = 0;
            for (Fault fault : faults(line)) {
                sum += weights.get(fault.rule() - 1);
            }
            return sum;
        }
    }

    /** One note of a line, with what the rules ask for. */
    record Look(State state, List<Note> line, int i) {
        Note at(int index) {
            return index < 0 || index >= line.size() ? null : line.get(index);
        }

        Note cantusAt(int index) {
            int bar = Math.floorDiv(index, state.beats());
            return bar < 0 || bar >= state.cantus().size() ? null : state.cantus().get(bar);
        }

        Move harmony(int index) {
            return Move.between(cantusAt(index), at(index));
        }

        boolean tied(int index) {
            return state.species() == 4 && index > 0 && index % 2 == 0 && at(index).equals(at(index - 1));
        }

        int bar() {
            return i / state.beats();
        }

        boolean strongBeat() {
            return i % state.beats() == 0;
        }

        boolean lastBar() {
            return bar() == state.cantus().size() - 1;
        }

        /** Null if the rule finds no fault. */
        Integer detail(int rule) {
            Note note = at(i);
            Move move = Move.between(at(i - 1), note);
            Move before = Move.between(at(i - 2), at(i - 1));
            Move after = Move.between(note, at(i + 1));
            Move own = harmony(i);
            switch (NAMES.get(rule - 1)) {
                case "range":
                    boolean in = note.pitch() >= state.settings().get(0) && note.pitch() <= state.settings().get(1);
                    return in ? null : note.pitch();
                case "leap":
                    return move == null || allowed(move) ? null : move.width();
                case "recover":
                    if (before == null || move == null || before.steps() < 4) {
                        return null;
                    }
                    return move.step() && move.direction() * before.direction() == -1 ? null : before.steps();
                case "repeat":
                    return note.equals(at(i - 1)) && !tied(i) ? 0 : null;
                case "outline":
                    if (before == null || move == null || !before.leap() || !move.leap()
                            || before.direction() * move.direction() != 1) {
                        return null;
                    }
                    int sum = before.steps() + move.steps();
                    return sum == 6 || sum >= 8 ? sum : null;
                case "climax":
                    return climax();
                case "strong":
                    return strongBeat() && !own.consonant() && !tied(i) ? own.width() : null;
                case "weak":
                    return weak(own, move, after) ? own.width() : null;
                case "parallel":
                    boolean parallel = strongBeat() && (parallelFrom(i - 1) || parallelFrom(i - state.beats()));
                    return parallel ? own.classOf() : null;
                case "direct":
                    return direct(own, move) ? own.classOf() : null;
                case "unison":
                    return strongBeat() && own.width() == 0 && bar() > 0 && !lastBar() ? 0 : null;
                case "cross":
                    return own.direction() == (state.below() ? 1 : -1) ? own.width() : null;
                case "space":
                    return own.width() > state.settings().get(2) ? own.width() : null;
                case "begin":
                    boolean first = i == 0 || i == 1 && at(0) == null;
                    boolean good = own.classOf() == 8 || own.classOf() == 5 && !state.below();
                    return first && !good ? own.width() : null;
                case "cadence":
                    return lastBar() ? cadence(own, move) : null;
                default:
                    if (!tied(i) || own.consonant()) {
                        return null;
                    }
                    boolean resolved = at(i + 1) != null && at(i + 1).step() == note.step() - 1
                        && harmony(i + 1).consonant();
                    return resolved ? null : own.width();
            }
        }

        private boolean allowed(Move move) {
            String shape = move.steps() + " " + move.width();
            return List.of("0 0", "1 1", "1 2", "2 3", "2 4", "3 5", "4 7", "7 12").contains(shape)
                || shape.equals("5 8") && move.direction() == 1;
        }

        private Integer climax() {
            int top = 0;
            for (Note other : line) {
                top = other == null ? top : Math.max(top, other.pitch());
            }
            List<Integer> untied = new ArrayList<>();
            int first = -1;
            int faulty = -1;
            for (int k = 0; k < line.size(); k++) {
                if (at(k) != null && at(k).pitch() == top) {
                    if (!tied(k)) {
                        untied.add(k);
                    }
                    if (first >= 0 && faulty < 0 && !tied(k)) {
                        faulty = k;
                    }
                    first = first < 0 ? k : first;
                }
            }
            return faulty == i ? untied.size() : null;
        }

        private boolean weak(Move own, Move move, Move after) {
            if (strongBeat() || own.consonant()) {
                return false;
            }
            boolean steps = move != null && after != null && move.step() && after.step();
            boolean passing = steps && move.direction() * after.direction() == 1;
            boolean neighbour = steps && at(i - 1).equals(at(i + 1));
            return !(state.species() == 2 && passing || state.species() == 3 && (passing || neighbour));
        }

        private boolean parallelFrom(int index) {
            Move earlier = index < 0 ? null : harmony(index);
            return earlier != null && earlier.classOf() != 0 && earlier.classOf() == harmony(i).classOf()
                && at(index).pitch() != at(i).pitch() && cantusAt(index).pitch() != cantusAt(i).pitch();
        }

        private boolean direct(Move own, Move move) {
            if (!strongBeat() || bar() == 0 || move == null || own.classOf() == 0) {
                return false;
            }
            Move cantusMove = Move.between(cantusAt(i - 1), cantusAt(i));
            Move higher = own.direction() < 0 ? cantusMove : move;
            return move.direction() * cantusMove.direction() == 1 && higher.leap() && !parallelFrom(i - 1);
        }

        private Integer cadence(Move own, Move move) {
            Move cantusMove = Move.between(cantusAt(i - 1), cantusAt(i));
            if (own.classOf() != 8) {
                return 1;
            }
            if (move == null || !move.step()) {
                return 2;
            }
            if (!cantusMove.step() || cantusMove.direction() * move.direction() != -1) {
                return 3;
            }
            Move up = move.direction() == 1 ? move : cantusMove;
            return up.width() == 1 ? null : 4;
        }
    }

    private static final List<Integer> ONES = List.of(1, 1, 1, 1, 1, 1, 1, 1, 1, 1, 1, 1, 1, 1, 1, 1);
    private static final int[][] VALUES = {{24, 84}, {24, 84}, {12, 36}};

    private State now = new State(null, null, 1, false, List.of(36, 72, 16), ONES);
    private State saved = null;
    private final Deque<State> past = new ArrayDeque<>();
    private String buffer = "";
    private int errorPlace = -1;
    private List<Note> suggestion = null;

    private void change(State next) {
        past.addLast(now);
        if (past.size() > 6) {
            past.removeFirst();
        }
        now = next;
    }

    private static void need(boolean holds, RuntimeException otherwise) {
        if (!holds) {
            throw otherwise;
        }
    }

    private static IllegalStateException state() {
        return new IllegalStateException();
    }

    private static IllegalArgumentException argument() {
        return new IllegalArgumentException();
    }

    private static IndexOutOfBoundsException index() {
        return new IndexOutOfBoundsException();
    }

    private static NoSuchElementException element() {
        return new NoSuchElementException();
    }

    int append(int packed) {
        StringBuilder more = new StringBuilder();
        for (int i = 3; i >= 0; i--) {
            int sign = packed >>> 8 * i & 0xff;
            need(sign == 0 || sign >= 33 && sign <= 126, argument());
            more.append(sign == 0 ? "" : String.valueOf((char) sign));
        }
        need(buffer.length() + more.length() <= 180, state());
        buffer += more;
        return buffer.length();
    }

    private static final String NOTE = "[cdefgab][#b]?[2-6]";

    /** The line in the buffer, or null; the error position is the length of the longest text that can go on. */
    private List<Note> readLine(boolean rest, int least, int most) {
        String text = buffer;
        buffer = "";
        String first = rest ? "(?:" + NOTE + "|-)" : NOTE;
        Pattern whole = Pattern.compile(first + "(?:," + NOTE + "){" + (least - 1) + "," + (most - 1) + "}");
        if (!whole.matcher(text).matches()) {
            errorPlace = 0;
            while (errorPlace < text.length()) {
                Matcher start = whole.matcher(text.substring(0, errorPlace + 1));
                if (!start.matches() && !start.hitEnd()) {
                    break;
                }
                errorPlace++;
            }
            return null;
        }
        errorPlace = -1;
        List<Note> line = new ArrayList<>();
        for (String word : text.split(",")) {
            int alteration = word.length() < 3 ? 0 : word.charAt(1) == '#' ? 1 : -1;
            boolean isRest = word.equals("-");
            line.add(isRest ? null : new Note(word.charAt(0), word.charAt(word.length() - 1) - '0', alteration));
        }
        return line;
    }

    int cantus() {
        List<Note> line = readLine(false, 2, 12);
        need(line != null, argument());
        change(new State(line, null, now.species(), now.below(), now.settings(), now.weights()));
        return line.size();
    }

    int counterpoint() {
        need(now.cantus() != null, state());
        int notes = (now.cantus().size() - 1) * now.beats() + 1;
        List<Note> line = readLine(now.species() > 1, notes, notes);
        need(line != null, argument());
        change(now.withVoice(line));
        return now.faults(line).size();
    }

    int errorPosition() {
        return errorPlace;
    }

    int setSpecies(int species) {
        need(species >= 1 && species <= 4, argument());
        int previous = now.species();
        List<Note> voice = species == previous ? now.voice() : null;
        change(new State(now.cantus(), voice, species, now.below(), now.settings(), now.weights()));
        return previous;
    }

    boolean setPosition(boolean below) {
        boolean previous = now.below();
        change(new State(now.cantus(), now.voice(), now.species(), below, now.settings(), now.weights()));
        return previous;
    }

    int set(int what, int value) {
        need(what >= 0 && what <= 2, index());
        List<Integer> settings = new ArrayList<>(now.settings());
        int previous = settings.set(what, value);
        need(value >= VALUES[what][0] && value <= VALUES[what][1] && settings.get(0) <= settings.get(1), argument());
        change(new State(now.cantus(), now.voice(), now.species(), now.below(), settings, now.weights()));
        return previous;
    }

    private int place(int bar, int beat) {
        need(now.voice() != null, state());
        need(bar >= 0 && bar < now.cantus().size() && beat >= 0, index());
        need(beat < (bar == now.cantus().size() - 1 ? 1 : now.beats()), index());
        return bar * now.beats() + beat;
    }

    private List<Note> replaced(int place, int code) {
        List<Note> line = new ArrayList<>(now.voice());
        line.set(place, Note.of(code));
        return line;
    }

    int setNote(int bar, int beat, int code) {
        int place = place(bar, beat);
        need(code >= 42 && code <= 146, argument());
        Note previous = now.voice().get(place);
        need(previous != null, element());
        change(now.withVoice(replaced(place, code)));
        return previous.code();
    }

    int note(int bar, int beat) {
        need(now.cantus() != null, state());
        if (beat == -1) {
            need(bar >= 0 && bar < now.cantus().size(), index());
            return now.cantus().get(bar).code();
        }
        Note note = now.voice() == null ? null : now.voice().get(place(bar, beat));
        need(now.voice() != null, state());
        return note == null ? -1 : note.code();
    }

    int noteOf(int code, int what) {
        need(code >= 42 && code <= 146, index());
        need(what >= 0 && what <= 4, argument());
        Note note = Note.of(code);
        return new int[] {note.step(), note.alteration(), note.pitch(), note.number(), note.octave()}[what];
    }

    private static int sign(String text, int index) {
        need(index >= -1 && index < text.length(), index());
        return index == -1 ? text.length() : text.charAt(index);
    }

    int text(boolean isCantus, int index) {
        List<Note> line = isCantus ? now.cantus() : now.voice();
        need(line != null, state());
        List<String> words = new ArrayList<>();
        for (Note note : line) {
            words.add(note == null ? "-" : note.spelled());
        }
        return sign(String.join(",", words), index);
    }

    int interval(int bar, int beat, int what) {
        int place = place(bar, beat);
        need(now.voice().get(place) != null, element());
        need(what >= 0 && what <= 4, argument());
        Look look = new Look(now, now.voice(), place);
        Move own = look.harmony(place);
        int sound = own.classOf() != 0 ? 2 : own.consonant() ? 1 : 0;
        return new int[] {own.steps(), own.width(), sound, own.classOf(), look.tied(place) ? 1 : 0}[what];
    }

    int motion(int bar) {
        need(now.voice() != null, state());
        need(bar >= 0 && bar < now.cantus().size() - 1, index());
        Move voice = Move.between(now.voice().get(bar * now.beats()), now.voice().get((bar + 1) * now.beats()));
        Move cantus = Move.between(now.cantus().get(bar), now.cantus().get(bar + 1));
        need(voice != null, element());
        int moving = Math.abs(voice.direction()) + Math.abs(cantus.direction());
        if (moving < 2) {
            return moving;
        }
        return voice.direction() != cantus.direction() ? 2 : voice.width() != cantus.width() ? 3 : 4;
    }

    private List<Integer> allMotions() {
        List<Integer> kinds = new ArrayList<>();
        for (int bar = now.voice().get(0) == null ? 1 : 0; bar < now.cantus().size() - 1; bar++) {
            kinds.add(motion(bar));
        }
        return kinds;
    }

    int motions(int kind) {
        need(now.voice() != null, state());
        need(kind >= 0 && kind <= 4, argument());
        return (int) allMotions().stream().filter(k -> k == kind).count();
    }

    int contraryBits() {
        need(now.voice() != null, state());
        need(!allMotions().isEmpty(), new ArithmeticException());
        return Float.floatToIntBits((float) motions(2) / (float) allMotions().size());
    }

    long meanBits() {
        need(now.voice() != null, state());
        int sum = 0;
        int number = 0;
        for (int i = 0; i < now.voice().size(); i++) {
            if (now.voice().get(i) != null) {
                sum += new Look(now, now.voice(), i).harmony(i).width();
                number++;
            }
        }
        return Double.doubleToLongBits((double) sum / (double) number);
    }

    int setWeight(int rule, int weight) {
        need(rule >= 1 && rule <= 16, index());
        need(weight >= 0 && weight <= 9, argument());
        List<Integer> weights = new ArrayList<>(now.weights());
        int previous = weights.set(rule - 1, weight);
        change(now.withWeights(weights));
        return previous;
    }

    int weights() {
        String text = buffer;
        buffer = "";
        List<Integer> weights = new ArrayList<>(now.weights());
        int names = 0;
        int at = 0;
        while (true) {
            int end = at;
            while (end < text.length() && text.charAt(end) >= 'a' && text.charAt(end) <= 'z') {
                end++;
            }
            int rule = NAMES.indexOf(text.substring(at, end));
            errorPlace = at;
            need(rule >= 0, argument());
            errorPlace = end;
            need(text.startsWith("=", end), argument());
            errorPlace = end + 1;
            need(errorPlace < text.length() && text.substring(errorPlace, errorPlace + 1).matches("[0-9]"), argument());
            weights.set(rule, text.charAt(errorPlace) - '0');
            names++;
            errorPlace++;
            if (errorPlace == text.length()) {
                break;
            }
            need(text.charAt(errorPlace) == ',', argument());
            at = errorPlace + 1;
        }
        errorPlace = -1;
        change(now.withWeights(weights));
        return names;
    }

    int weight(int rule) {
        need(rule >= 1 && rule <= 16, index());
        return now.weights().get(rule - 1);
    }

    private Fault faultAt(int index) {
        need(now.voice() != null, state());
        List<Fault> faults = now.faults(now.voice());
        need(index >= 0 && index < faults.size(), element());
        return faults.get(index);
    }

    int fault(int index, int what) {
        Fault fault = faultAt(index);
        need(what >= 0 && what <= 3, argument());
        return new int[] {fault.rule(), fault.bar(), fault.beat(), fault.detail()}[what];
    }

    int explain(int number, int index) {
        Fault fault = faultAt(number);
        return sign(fault.bar() + 1 + "." + (fault.beat() + 1) + ":" + NAMES.get(fault.rule() - 1) + "="
            + fault.detail(), index);
    }

    int faults(int rule) {
        need(now.voice() != null, state());
        need(rule >= 0 && rule <= 16, index());
        return (int) now.faults(now.voice()).stream().filter(f -> rule == 0 || f.rule() == rule).count();
    }

    int faultsIn(int bar) {
        need(now.voice() != null, state());
        need(bar >= 0 && bar < now.cantus().size(), index());
        return (int) now.faults(now.voice()).stream().filter(f -> f.bar() == bar).count();
    }

    int cost() {
        need(now.voice() != null, state());
        return now.cost(now.voice());
    }

    private boolean allowed(int code) {
        int pitch = Note.of(code).pitch();
        return pitch >= now.settings().get(0) && pitch <= now.settings().get(1);
    }

    int better(int bar, int beat) {
        int place = place(bar, beat);
        need(now.voice().get(place) != null, element());
        int best = -1;
        int least = Integer.MAX_VALUE;
        for (int code = 42; code <= 146; code++) {
            int cost = allowed(code) ? now.cost(replaced(place, code)) : Integer.MAX_VALUE;
            if (cost < least) {
                best = code;
                least = cost;
            }
        }
        need(best != -1, element());
        return best;
    }

    int costWith(int bar, int beat, int code) {
        int place = place(bar, beat);
        need(code >= 42 && code <= 146, argument());
        need(now.voice().get(place) != null, element());
        return now.cost(replaced(place, code));
    }

    private int trials;

    private List<Note> extended(List<Note> line) {
        int bar = line.size();
        boolean last = bar == now.cantus().size() - 1;
        for (int code = 42; code <= 146; code++) {
            boolean named = code % 3 == 1 || code % 3 == 2 && bar == now.cantus().size() - 2;
            if (!named || !allowed(code)) {
                continue;
            }
            if (trials == TRIALS) {
                return null;
            }
            trials++;
            List<Note> longer = new ArrayList<>(line);
            longer.add(Note.of(code));
            boolean fits = true;
            for (Fault fault : now.faults(longer)) {
                fits &= !last && (fault.bar() != bar || fault.rule() == 6 || fault.rule() == 15);
            }
            List<Note> found = !fits ? null : last ? longer : extended(longer);
            if (found != null) {
                return found;
            }
        }
        return null;
    }

    int search() {
        need(now.cantus() != null && now.species() == 1, state());
        trials = 0;
        List<Note> found = extended(List.of());
        need(found != null, new UnsupportedOperationException());
        suggestion = found;
        return trials;
    }

    int suggested(int bar) {
        need(suggestion != null, state());
        need(bar >= 0 && bar < suggestion.size(), index());
        return suggestion.get(bar).code();
    }

    int adopt() {
        need(suggestion != null && now.cantus() != null, state());
        need(now.species() == 1 && suggestion.size() == now.cantus().size(), new UnsupportedOperationException());
        change(now.withVoice(suggestion));
        return faults(0);
    }

    int count(int what) {
        need(what >= 0 && what <= 10, argument());
        int sum = now.weights().stream().mapToInt(w -> w).sum();
        return new int[] {size(now.cantus()), size(now.voice()), now.species(), now.below() ? 1 : 0,
            now.settings().get(0), now.settings().get(1), now.settings().get(2), sum, buffer.length(), past.size(),
            size(suggestion)}[what];
    }

    private static int size(List<Note> line) {
        return line == null ? 0 : line.size();
    }

    int undo() {
        need(!past.isEmpty(), state());
        now = past.removeLast();
        return past.size();
    }

    int save() {
        saved = now;
        return size(now.cantus());
    }

    int restore() {
        need(saved != null, state());
        change(saved);
        return size(now.cantus());
    }
}
