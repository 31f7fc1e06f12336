import java.io.IOException;
import java.lang.reflect.Constructor;
import java.lang.reflect.Field;
import java.lang.reflect.Member;
import java.lang.reflect.Method;
import java.lang.reflect.Modifier;
import java.nio.file.Files;
import java.nio.file.Path;
import java.util.ArrayList;
import java.util.HashSet;
import java.util.List;
import java.util.Set;
import java.util.StringJoiner;

/** The public face: just what the document's list of it says, and everything else private (rule 1 of LANGUAGE.md). */
public final class FaceTest {
    private static final Check CHECK = new Check();
    private static final Class<?> FACE = CounterpointChecker.class;

    public static void main(String[] args) throws IOException {
        List<String> due = dueFace();
        CHECK.due("the members that the document lists", 34, () -> due.size() - 1);
        CHECK.dueText("the class", due.get(0), declared(FACE));
        Set<String> open = new HashSet<>();
        for (Constructor<?> one : FACE.getDeclaredConstructors()) {
            open.add(Modifier.toString(one.getModifiers()) + " " + FACE.getName() + "("
                + names(one.getParameterTypes(), ", ") + ")" + thrown(one.getExceptionTypes()));
        }
        for (Method one : FACE.getDeclaredMethods()) {
            if (!Modifier.isPrivate(one.getModifiers())) {
                open.add(Modifier.toString(one.getModifiers()) + " " + one.getReturnType().getName() + " "
                    + one.getName() + "(" + names(one.getParameterTypes(), ", ") + ")"
                    + thrown(one.getExceptionTypes()));
            }
        }
        for (String member : due.subList(1, due.size())) {
            CHECK.dueText("the face", member, open.remove(member) ? member : "none of this kind");
        }
        CHECK.dueText("what else is open", "[]", open.toString());
        allElseIsHidden();
        CHECK.end();
    }

    /** The lines of the document's list, without the names of parameters and of packages. */
    private static List<String> dueFace() throws IOException {
        List<String> face = new ArrayList<>();
        boolean isInside = false;
        for (String line : Files.readAllLines(Path.of("../shared/DOC.md"))) {
            if (line.startsWith("```")) {
                isInside = line.equals("```java");
            } else if (isInside && line.strip().startsWith("public")) {
                face.add(line.strip().replaceAll("[;{]$", "").strip().replace("java.util.", "")
                    .replaceAll("(int|boolean) [a-zA-Z]+([,)])", "$1$2"));
            }
        }
        return face;
    }

    private static String declared(Class<?> one) {
        return Modifier.toString(one.getModifiers()) + " class " + one.getName();
    }

    private static String names(Class<?>[] types, String between) {
        StringJoiner names = new StringJoiner(between);
        for (Class<?> type : types) {
            names.add(type.getSimpleName());
        }
        return names.toString();
    }

    private static String thrown(Class<?>[] types) {
        return types.length == 0 ? "" : " throws " + names(types, ", ");
    }

    private static void allElseIsHidden() {
        Set<String> openNames = new HashSet<>();
        for (Method one : FACE.getDeclaredMethods()) {
            if (Modifier.isPublic(one.getModifiers())) {
                openNames.add(one.getName());
            }
        }
        for (Field one : FACE.getDeclaredFields()) {
            CHECK.due(one + " is private", 1, () -> Modifier.isPrivate(one.getModifiers()) ? 1 : 0);
        }
        for (Class<?> inner : FACE.getDeclaredClasses()) {
            int kind = inner.getModifiers();
            CHECK.due(inner + " is static and not open", 1, () -> Modifier.isStatic(kind)
                && !Modifier.isPublic(kind) && !Modifier.isProtected(kind) ? 1 : 0);
            noNameTwice(inner, openNames);
        }
        noNameTwice(FACE, openNames);
    }

    private static void noNameTwice(Class<?> one, Set<String> openNames) {
        for (Member member : one.getDeclaredMethods()) {
            boolean isTaken = Modifier.isPrivate(member.getModifiers()) && openNames.contains(member.getName());
            CHECK.due(member + " has a name of its own", 0, () -> isTaken ? 1 : 0);
        }
    }
}
