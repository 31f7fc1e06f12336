import java.lang.reflect.InvocationTargetException;
import java.lang.reflect.Method;
import java.lang.reflect.Parameter;
import java.util.ArrayList;
import java.util.List;
import java.util.Map;

/**
 * Sentences of the document, each with a script that runs on a new object. A line of a script is a call with its
 * arguments and, behind an arrow, the answer or the exception that is due; without an arrow any answer is due, but no
 * exception. A text behind cantus, counterpoint or weights is typed before the call. Besides the calls there are:
 * type (puts a text into the buffer), given, made and found (the cantus, the counterpoint and all its faults as
 * texts) and only (gives all rules but this one the weight 0).
 */
final class Script {
    private static final String ARROW = " -> ";
    private static final Map<String, Class<? extends RuntimeException>> EXCEPTIONS = Map.of(
        "STATE", IllegalStateException.class,
        "ARGUMENT", IllegalArgumentException.class,
        "INDEX", IndexOutOfBoundsException.class,
        "ELEMENT", java.util.NoSuchElementException.class,
        "ARITHMETIC", ArithmeticException.class,
        "UNSUPPORTED", UnsupportedOperationException.class);

    private final Check check;

    Script(Check check) {
        this.check = check;
    }

    void sentence(String words, String... lines) {
        run(words, new CounterpointChecker(), lines);
    }

    /** For scripts that go on with an object, or that ask it for the same in many states. */
    void run(String words, CounterpointChecker x, String... lines) {
        for (int i = 0; i < lines.length; i++) {
            int arrow = lines[i].lastIndexOf(ARROW);
            String call = arrow < 0 ? lines[i] : lines[i].substring(0, arrow);
            String due = arrow < 0 ? null : lines[i].substring(arrow + ARROW.length());
            String got = outcome(x, call);
            boolean isRefused = EXCEPTIONS.containsKey(got) || got.contains("Exception") || got.contains("Error");
            if (due != null || isRefused) {
                check.dueText(words + " | line " + (i + 1) + ": " + call, due == null ? "an answer" : due, got);
            }
        }
    }

    /** What a line answers, as a text: the short name of the exception, if it is thrown. */
    static String outcome(CounterpointChecker x, String line) {
        try {
            List<String> words = new ArrayList<>(List.of(line.split(" ")));
            return answer(x, words.remove(0), words);
        } catch (RuntimeException e) {
            for (Map.Entry<String, Class<? extends RuntimeException>> entry : EXCEPTIONS.entrySet()) {
                if (entry.getValue() == e.getClass()) {
                    return entry.getKey();
                }
            }
            return e.toString();
        }
    }

    private static String answer(CounterpointChecker x, String name, List<String> words) {
        switch (name) {
            case "type":
                Check.type(x, words.get(0));
                return "";
            case "given":
                return Check.textOf(x, true);
            case "made":
                return Check.textOf(x, false);
            case "found":
                return Check.faultsOf(x);
            case "only":
                for (int rule = 1; rule <= 16; rule++) {
                    x.setWeight(rule, rule == Integer.parseInt(words.get(0)) ? 1 : 0);
                }
                return "";
            case "cantus":
            case "counterpoint":
            case "weights":
                Check.type(x, words.isEmpty() ? "" : words.get(0));
                return invoke(x, name, List.of());
            default:
                return invoke(x, name, words);
        }
    }

    private static String invoke(CounterpointChecker x, String name, List<String> words) {
        for (Method method : CounterpointChecker.class.getMethods()) {
            if (method.getName().equals(name) && method.getDeclaringClass() == CounterpointChecker.class) {
                return String.valueOf(invoke(x, method, words));
            }
        }
        throw new AssertionError("no call " + name);
    }

    private static Object invoke(CounterpointChecker x, Method method, List<String> words) {
        Parameter[] parameters = method.getParameters();
        Object[] values = new Object[parameters.length];
        for (int i = 0; i < values.length; i++) {
            values[i] = parameters[i].getType() == boolean.class ? Boolean.valueOf(words.get(i)) : number(words.get(i));
        }
        try {
            return method.invoke(x, values);
        } catch (InvocationTargetException e) {
            if (e.getCause() instanceof RuntimeException thrown) {
                throw thrown;
            }
            throw new AssertionError(e);
        } catch (IllegalAccessException e) {
            throw new AssertionError(e);
        }
    }

    private static Object number(String word) {
        switch (word) {
            case "LEAST": return Integer.MIN_VALUE;
            case "MOST": return Integer.MAX_VALUE;
            default: return word.startsWith("0x") ? Integer.parseUnsignedInt(word.substring(2), 16)
                : Integer.parseInt(word);
        }
    }

    /** The same line so many times. */
    static String[] times(int number, String line) {
        String[] lines = new String[number];
        java.util.Arrays.fill(lines, line);
        return lines;
    }

    static String[] joined(Object... parts) {
        List<String> lines = new ArrayList<>();
        for (Object part : parts) {
            lines.addAll(part instanceof String[] some ? List.of(some) : List.of((String) part));
        }
        return lines.toArray(new String[0]);
    }

    /** A line of so many notes, all the same. */
    static String row(int notes, String note) {
        return String.join(",", times(notes, note));
    }
}
