import java.io.IOException;
import java.lang.reflect.Field;
import java.lang.reflect.Member;
import java.lang.reflect.Method;
import java.lang.reflect.Modifier;
import java.nio.file.Files;
import java.nio.file.Path;
import java.util.ArrayList;
import java.util.List;
import java.util.Set;
import java.util.TreeSet;

/** The rules of LANGUAGE.md that can be seen from outside; run from the project's folder. */
public final class LanguageTest {
    private static final Path SOURCE = Path.of("src/main/java/RentReview.java");
    private static final Set<String> IMPORTS =
        Set.of("import java.util.Arrays;", "import java.util.NoSuchElementException;");
    private static final List<String> WORDS = List.of("->", "::", "finally", "synchronized", "assert",
        "static {", "Exact(", "catch", "System.out", "Object", "double", "float", "Random", "toString",
        "hashCode", "getClass", "@");
    private static final String FACE = "ahead billed breaks end fault feed index interest lease market now pass"
        + " publish rent review spread text trued turnover undo would";

    public static void main(String[] args) throws IOException {
        Check check = new Check();
        source(check);
        face(check);
        for (Class<?> inner : RentReview.class.getDeclaredClasses()) {
            check.due("1: public " + inner, isOpen(inner.getModifiers()), false);
            check.due("2: not static " + inner, Modifier.isStatic(inner.getModifiers()), true);
            members(check, inner);
        }
        members(check, RentReview.class);
        check.due("11: too many classes", RentReview.class.getDeclaredClasses().length > 11, false);
        check.finish();
    }

    private static void source(Check check) throws IOException {
        int begun = 0;
        List<String> lines = Files.readAllLines(SOURCE);
        for (int i = 0; i < lines.size(); i++) {
            String line = lines.get(i);
            String at = "line " + (i + 1) + ": ";
            check.due(at + "not a sign of 1 to 127", line.chars().anyMatch(c -> c < 1 || c > 127), false);
            if (line.startsWith("import")) {
                check.due(at + line, IMPORTS.contains(line), true);
            }
            for (String word : WORDS) {
                check.due(at + word, line.contains(word), false);
            }
            if (line.matches(" {4}(?: {4})?[a-z].*\\) (?:throws \\w+ )?\\{")) {
                begun = i;
            } else if (line.matches(" {4}(?: {4})?\\}")) {
                check.due(at + "a method of over sixty lines", i - begun > 60 && begun > 0, false);
                begun = 0;
            }
        }
    }

    private static void face(Check check) {
        Set<String> open = new TreeSet<>();
        for (Method method : RentReview.class.getDeclaredMethods()) {
            if (Modifier.isPublic(method.getModifiers())) {
                open.add(method.getName());
            } else {
                closed(check, method);
            }
        }
        check.due("1: the face has " + open, String.join(" ", open).equals(FACE), true);
        for (Field field : RentReview.class.getDeclaredFields()) {
            if (!field.getName().equals("NONE")) {
                closed(check, field);
            }
        }
        check.due("1: final", Modifier.isFinal(RentReview.class.getModifiers()), true);
    }

    private static boolean isOpen(int modifiers) {
        return Modifier.isPublic(modifiers) || Modifier.isProtected(modifiers);
    }

    private static void closed(Check check, Member member) {
        check.due("1: not private: " + member.getName(), Modifier.isPrivate(member.getModifiers()), true);
    }

    private static void members(Check check, Class<?> type) {
        List<String> fields = new ArrayList<>();
        for (Field field : type.getDeclaredFields()) {
            if (Modifier.isStatic(field.getModifiers())) {
                check.due("5: " + field, Modifier.isFinal(field.getModifiers()), true);
            } else {
                fields.add(field.getName());
            }
        }
        check.due("11: the fields " + fields, fields.size() > 20, false);
        for (Method method : type.getDeclaredMethods()) {
            check.due("11: parameters of " + method, method.getParameterCount() > 7, false);
            if (type != RentReview.class) {
                boolean named = List.of(FACE.split(" ")).contains(method.getName());
                check.due("1: the name of " + method, named, false);
            }
        }
    }
}
