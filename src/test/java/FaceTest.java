import java.lang.reflect.Constructor;
import java.lang.reflect.Field;
import java.lang.reflect.Method;
import java.lang.reflect.Modifier;
import java.util.List;
import java.util.Set;
import java.util.TreeSet;

/** 'The public face' of the document, to the letter: a wider type or one more member would show. */
public final class FaceTest {
    private static final List<String> METHODS = List.of(
        "public int RentReview.feed(int,int,int,int,int)",
        "public boolean RentReview.end(int)",
        "public int RentReview.text()",
        "public int RentReview.fault()",
        "public int RentReview.now(int)",
        "public int RentReview.lease(int,int) throws java.util.NoSuchElementException",
        "public int RentReview.index(int,int)",
        "public int RentReview.rent(int,int,int)",
        "public int RentReview.review(int,int,int,int)",
        "public int RentReview.billed(int,int)",
        "public int RentReview.trued(int,int)",
        "public int RentReview.interest(int,int)",
        "public int RentReview.spread(int,int)",
        "public int RentReview.ahead(int,int)",
        "public int RentReview.would(int,int,int)",
        "public int RentReview.publish(int,int)",
        "public int RentReview.market(int,int,int)",
        "public boolean RentReview.turnover(int,int,int)",
        "public int RentReview.breaks(int)",
        "public int RentReview.pass(int)",
        "public int RentReview.undo()");

    private static final Check check = new Check();

    public static void main(String[] args) {
        typeOfTheClass();
        constructors();
        methods();
        constants();
        check.finish();
    }

    private static void same(String what, Set<String> got, Set<String> want) {
        check.due(what + ": " + got, got.equals(want), true);
    }

    private static void typeOfTheClass() {
        int modifiers = RentReview.class.getModifiers();
        check.due("public final class", modifiers, Modifier.PUBLIC | Modifier.FINAL);
        check.due("no class above it", RentReview.class.getSuperclass() == Object.class, true);
        check.due("no interfaces", RentReview.class.getInterfaces().length, 0);
        check.due("no package", RentReview.class.getPackageName().isEmpty(), true);
    }

    private static void constructors() {
        Set<String> got = new TreeSet<>();
        for (Constructor<?> constructor : RentReview.class.getDeclaredConstructors()) {
            got.add(constructor.toString());
        }
        same("constructors", got, Set.of("public RentReview()"));
    }

    private static void methods() {
        Set<String> got = new TreeSet<>();
        for (Method method : RentReview.class.getDeclaredMethods()) {
            if (!Modifier.isPrivate(method.getModifiers())) {
                got.add(method.toString());
            }
        }
        same("methods", got, new TreeSet<>(METHODS));
    }

    private static void constants() {
        Set<String> got = new TreeSet<>();
        for (Field field : RentReview.class.getDeclaredFields()) {
            if (!Modifier.isPrivate(field.getModifiers())) {
                got.add(field.toString());
            }
        }
        same("constants", got, Set.of("public static final int RentReview.NONE"));
        check.due("NONE", RentReview.NONE, -1);
    }
}
