import java.lang.reflect.Constructor;
import java.lang.reflect.Field;
import java.lang.reflect.Method;
import java.lang.reflect.Modifier;
import java.util.Arrays;
import java.util.Set;
import java.util.TreeSet;

/** The class has the document's face and nothing more that can be seen (LANGUAGE.md 1, 2, 5). */
final class FaceTest {
    private static final Set<String> METHODS = new TreeSet<>(Arrays.asList(
            "feed 1", "pieces 0", "fault 0", "told 1", "at 2", "day 2", "word 3", "cost 1", "steady 2", "flare 2",
            "story 2", "together 2", "piece 2", "take 1", "move 2", "days 1", "term 2", "drift 1", "undo 1", "write 3",
            "tear 0", "seed 1", "keep 1", "goBack 1"));
    private static final Set<String> CONSTANTS = new TreeSet<>(
            Arrays.asList("NONE", "UNKNOWN", "OUTSIDE", "NOT", "FULL"));

    private static final Checks CHECKS = new Checks("FaceTest");

    public static void main(String[] args) {
        CHECKS.due("NONE", -1, FlaringWords.NONE);
        CHECKS.due("UNKNOWN", -1000000001, FlaringWords.UNKNOWN);
        CHECKS.due("OUTSIDE", -1000000002, FlaringWords.OUTSIDE);
        CHECKS.due("NOT", -1000000003, FlaringWords.NOT);
        CHECKS.due("FULL", -1000000004, FlaringWords.FULL);
        classItself();
        methods();
        fields(FlaringWords.class);
        for (Class<?> inside : FlaringWords.class.getDeclaredClasses()) {
            CHECKS.holds(inside + " is static", Modifier.isStatic(inside.getModifiers()));
            CHECKS.holds(inside + " is hidden", hidden(inside.getModifiers()));
            noMethodOfTheFace(inside);
            fields(inside);
        }
        CHECKS.holds("twelve classes at most", FlaringWords.class.getDeclaredClasses().length < 12);
        CHECKS.end();
    }

    private static boolean hidden(int modifiers) {
        return !Modifier.isPublic(modifiers) && !Modifier.isProtected(modifiers);
    }

    private static void classItself() {
        int modifiers = FlaringWords.class.getModifiers();
        CHECKS.holds("public final", Modifier.isPublic(modifiers) && Modifier.isFinal(modifiers));
        CHECKS.holds("extends nothing", FlaringWords.class.getSuperclass() == Object.class);
        CHECKS.holds("implements nothing", FlaringWords.class.getInterfaces().length == 0);
        Constructor<?>[] constructors = FlaringWords.class.getDeclaredConstructors();
        CHECKS.due("constructors", 1, constructors.length);
        CHECKS.holds("public constructor", Modifier.isPublic(constructors[0].getModifiers()));
        CHECKS.due("its parameters", 0, constructors[0].getParameterCount());
    }

    private static void methods() {
        Set<String> seen = new TreeSet<>();
        for (Method method : FlaringWords.class.getDeclaredMethods()) {
            boolean open = Modifier.isPublic(method.getModifiers());
            if (open) {
                seen.add(method.getName() + " " + method.getParameterCount());
                CHECKS.holds(method + " answers an int", method.getReturnType() == int.class);
                CHECKS.holds(method + " takes ints",
                        Arrays.stream(method.getParameterTypes()).allMatch(type -> type == int.class));
                CHECKS.holds(method + " is no static one", !Modifier.isStatic(method.getModifiers()));
            } else {
                CHECKS.holds(method + " is private", Modifier.isPrivate(method.getModifiers()));
                CHECKS.holds(method + " bears a name of its own", !isOfTheFace(method.getName()));
            }
        }
        CHECKS.holds("methods are " + METHODS + ", not " + seen, METHODS.equals(seen));
    }

    private static boolean isOfTheFace(String name) {
        return METHODS.stream().anyMatch(method -> method.startsWith(name + " "));
    }

    private static void noMethodOfTheFace(Class<?> inside) {
        for (Method method : inside.getDeclaredMethods()) {
            CHECKS.holds(method + " bears a name of its own", !isOfTheFace(method.getName()));
            CHECKS.holds(method + " has seven parameters at most", method.getParameterCount() <= 7);
        }
    }

    private static void fields(Class<?> of) {
        int ofObject = 0;
        for (Field field : of.getDeclaredFields()) {
            boolean fixed = Modifier.isStatic(field.getModifiers());
            boolean constant = of == FlaringWords.class && CONSTANTS.contains(field.getName());
            CHECKS.holds(field + " is final if static", !fixed || Modifier.isFinal(field.getModifiers()));
            CHECKS.holds(field + " is public if the document has it",
                    constant == Modifier.isPublic(field.getModifiers()));
            if (of == FlaringWords.class && !constant) {
                CHECKS.holds(field + " is private", Modifier.isPrivate(field.getModifiers()));
            }
            ofObject += fixed ? 0 : 1;
        }
        CHECKS.holds(of + " has twenty fields at most", ofObject <= 20);
    }
}
