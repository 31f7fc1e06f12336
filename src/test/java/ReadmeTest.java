import java.io.IOException;
import java.nio.file.Files;
import java.nio.file.Path;
import java.util.ArrayList;
import java.util.List;
import java.util.regex.Matcher;
import java.util.regex.Pattern;

/** The example in README.md: each of its calls, with the answer that stands behind it. */
public final class ReadmeTest {
    private static final Check CHECK = new Check();
    private static final Pattern LINE = Pattern.compile("x\\.([a-zA-Z]+)\\((.*)\\); +// (-?[0-9]+)(:.*)?");

    public static void main(String[] args) throws IOException {
        CounterpointChecker x = new CounterpointChecker();
        int calls = 0;
        for (String line : example()) {
            Matcher parts = LINE.matcher(line);
            if (parts.matches()) {
                CHECK.dueText(line, parts.group(3), Script.outcome(x, call(parts.group(1), parts.group(2))));
                calls++;
            } else if (!line.isEmpty() && !line.startsWith("//") && !line.endsWith("new CounterpointChecker();")) {
                CHECK.complain("README.md has a line without an answer: " + line);
            }
        }
        int found = calls;
        CHECK.due("the example has calls", 1, () -> found >= 30 ? 1 : 0);
        CHECK.dueText("the line that it adopts", "a4,d5,e5,c#5,d5", Check.textOf(x, false));
        CHECK.end();
    }

    private static List<String> example() throws IOException {
        List<String> lines = new ArrayList<>();
        boolean isInside = false;
        for (String line : Files.readAllLines(Path.of("README.md"))) {
            if (line.startsWith("```")) {
                isInside = line.equals("```java");
            } else if (isInside) {
                lines.add(line);
            }
        }
        return lines;
    }

    /** A call as a line of a script. */
    private static String call(String name, String arguments) {
        StringBuilder line = new StringBuilder(name);
        for (String argument : arguments.isEmpty() ? new String[0] : arguments.split(", ")) {
            line.append(' ').append(argument.contains("'") ? packed(argument) : argument);
        }
        return line.toString();
    }

    private static String packed(String signs) {
        int packed = 0;
        for (String part : signs.split(" \\| ")) {
            int shift = part.contains("<<") ? Integer.parseInt(part.replaceAll(".*<< ", "")) : 0;
            packed |= part.charAt(1) << shift;
        }
        return String.valueOf(packed);
    }
}
