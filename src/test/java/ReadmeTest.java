import java.io.IOException;
import java.lang.reflect.Method;
import java.lang.reflect.Modifier;
import java.nio.file.Files;
import java.nio.file.Path;
import java.util.Set;
import java.util.TreeSet;
import java.util.regex.Matcher;
import java.util.regex.Pattern;

/** README.md answers as the class does: each call of its examples, with the answer behind it. */
public final class ReadmeTest {
    private static final Pattern CALL = Pattern.compile("desk\\.(\\w+)\\(([^)]*)\\);\\s*//\\s*(-?\\d+|true|false)\\b.*");

    private static final Check check = new Check();

    public static void main(String[] args) throws IOException {
        RentReview desk = new RentReview();
        Set<String> shown = new TreeSet<>();
        boolean inCode = false;
        for (String line : Files.readAllLines(Path.of("README.md"))) {
            if (line.startsWith("```")) {
                inCode = line.equals("```java");
            } else if (inCode && line.startsWith("desk.")) {
                answer(desk, line, shown);
            }
        }
        for (Method method : RentReview.class.getDeclaredMethods()) {
            if (Modifier.isPublic(method.getModifiers())) {
                check.due("README.md shows " + method.getName() + "()", shown.contains(method.getName()), true);
            }
        }
        check.finish();
    }

    private static void answer(RentReview desk, String line, Set<String> shown) {
        Matcher call = CALL.matcher(line);
        if (!call.matches()) {
            check.due("README.md, a call with its answer: " + line, false, true);
            return;
        }
        shown.add(call.group(1));
        String[] told = call.group(2).isEmpty() ? new String[0] : call.group(2).split(", *");
        Object[] numbers = new Object[told.length];
        for (int i = 0; i < told.length; i++) {
            numbers[i] = (int) (long) Long.decode(told[i]);
        }
        check.due("README.md: " + line, String.valueOf(ask(desk, call.group(1), numbers)).equals(call.group(3)), true);
    }

    private static Object ask(RentReview desk, String name, Object[] numbers) {
        for (Method method : RentReview.class.getMethods()) {
            if (method.getName().equals(name) && method.getParameterCount() == numbers.length) {
                try {
                    return method.invoke(desk, numbers);
                } catch (ReflectiveOperationException e) {
                    return e;
                }
            }
        }
        return "no such call";
    }
}
