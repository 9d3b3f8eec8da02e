import java.lang.reflect.Method;
import java.util.ArrayList;
import java.util.HashMap;
import java.util.List;
import java.util.Map;
import java.util.Set;
import java.util.TreeSet;
import java.util.regex.Matcher;
import java.util.regex.Pattern;

/**
 * Cases: each has a name that begins with its promise ("promise 14: ..") and rows of calls on a new object.
 *
 * <pre>
 *   piece(0, 255) = 0       a call with the answer that is due
 *   piece(0, 255)           a call whose answer is not looked at
 *   39 times piece(0, 0)    as often
 *   text 0:a;1:ab;          feed() of each letter
 *   # because ..            a remark
 * </pre>
 *
 * Behind each call that only asks, and each that is due to be refused, the object is also held against a twin that was
 * never called so: "nothing changes by it", "what is refused changes nothing".
 */
final class Cases {
    private static final int MOST_CALLS = 512;
    private static final Pattern ROW = Pattern.compile("(?:(\\d+) times )?(\\w+)\\((.*)\\)(?: = (\\S+))?");
    private static final Set<String> ASKED = Set.of("fault", "told", "at", "day", "word", "cost", "steady", "flare",
            "story", "together");
    private static final Map<String, Integer> NAMES = Map.of("NONE", FlaringWords.NONE, "UNKNOWN",
            FlaringWords.UNKNOWN, "OUTSIDE", FlaringWords.OUTSIDE, "NOT", FlaringWords.NOT, "FULL", FlaringWords.FULL,
            "LOW", Integer.MIN_VALUE, "HIGH", Integer.MAX_VALUE);
    private static final Map<String, Method> METHODS = methodsByName();

    private final Checks checks;
    private final Set<Integer> promises = new TreeSet<>();
    private final Set<String> names = new TreeSet<>();

    Cases(Checks checks) {
        this.checks = checks;
    }

    private record Row(String call, Method method, Object[] arguments, Integer due) {
        boolean changesNothing() {
            return due != null && (due <= FlaringWords.UNKNOWN || ASKED.contains(method.getName()));
        }
    }

    /** An object and how often it was called: nothing is promised behind its 512th call, so no case goes there. */
    private static final class Called {
        private final FlaringWords it = new FlaringWords();
        private int calls = 0;

        int call(Row row) {
            return call(row.method, row.arguments);
        }

        int call(String name, Integer... arguments) {
            return call(METHODS.get(name), arguments);
        }

        private int call(Method method, Object[] arguments) {
            calls++;
            if (calls > MOST_CALLS) {
                throw new IllegalStateException("a case of more than " + MOST_CALLS + " calls");
            }
            try {
                return (Integer) method.invoke(it, arguments);
            } catch (ReflectiveOperationException e) {
                throw new IllegalStateException(method.getName(), e);
            }
        }
    }

    void of(String name, String text) {
        Matcher promise = Pattern.compile("promise (\\d+): .*").matcher(name);
        checks.holds(name + ": says its promise", promise.matches());
        checks.holds(name + ": is there once", names.add(name));
        promises.add(Integer.valueOf(promise.group(1)));
        List<Row> rows = read(text);
        checks.holds(name + ": has an answer that is due", rows.stream().anyMatch(row -> row.due != null));
        Called x = new Called();
        for (int i = 0; i < rows.size(); i++) {
            Row row = rows.get(i);
            int got = x.call(row);
            if (row.due != null) {
                checks.due(name + ": row " + i + ", " + row.call, row.due, got);
            }
            if (row.changesNothing()) {
                twins(name, rows.subList(0, i), row);
            }
        }
    }

    void allPromises(int count) {
        for (int promise = 1; promise <= count; promise++) {
            checks.holds("promise " + promise + " has a case", promises.contains(promise));
        }
    }

    // ---- twins

    private void twins(String name, List<Row> ahead, Row row) {
        Called one = new Called();
        Called other = new Called();
        for (Row earlier : ahead) {
            one.call(earlier);
            other.call(earlier);
        }
        one.call(row);
        String changed = firstUnlike(told(one), told(other));
        checks.holds(name + ": " + row.call + " changes nothing; but " + changed, changed == null);
    }

    private static String firstUnlike(List<String> one, List<String> other) {
        for (int i = 0; i < Math.min(one.size(), other.size()); i++) {
            if (!one.get(i).equals(other.get(i))) {
                return one.get(i) + " behind it, else " + other.get(i);
            }
        }
        return one.size() == other.size() ? null : "another number of answers";
    }

    /** All that can be seen of an object, by calls that use it up: what is so, the text, deeds undone, the images. */
    private static List<String> told(Called x) {
        List<String> answers = new ArrayList<>();
        for (int what = 0; what <= 12; what++) {
            tell(x, answers, "told", what);
        }
        tell(x, answers, "fault");
        for (int k = 0; k < x.call("told", 1); k++) {
            tell(x, answers, "at", k, 0);
            tell(x, answers, "at", k, 1);
        }
        for (int w = 0; w < 8; w++) {
            tell(x, answers, "cost", w);
        }
        for (int f = 0; f < Math.min(3, x.call("told", 2)); f++) {
            tell(x, answers, "flare", f, 5);
        }
        tell(x, answers, "pieces");
        tell(x, answers, "fault");
        tellSection1(x, answers);
        for (int n = x.call("told", 11); n > 0; n--) {
            tell(x, answers, "undo", 1);
            tellSection1(x, answers);
        }
        for (int i = 0; i < 2; i++) {
            tell(x, answers, "goBack", i);
            tell(x, answers, "told", 12);
            tellSection1(x, answers);
        }
        tell(x, answers, "tear");
        return answers;
    }

    private static void tellSection1(Called x, List<String> answers) {
        for (int what : new int[] {0, 1, 4, 5, 6, 7}) {
            tell(x, answers, "told", what);
        }
        int last = x.call("told", 1) - 1;
        tell(x, answers, "at", last, 0);
        tell(x, answers, "at", last, 1);
    }

    private static void tell(Called x, List<String> answers, String name, Integer... arguments) {
        answers.add(name + List.of(arguments) + " answers " + x.call(name, arguments));
    }

    // ---- reading

    private static Map<String, Method> methodsByName() {
        Map<String, Method> found = new HashMap<>();
        for (Method method : FlaringWords.class.getDeclaredMethods()) {
            if (java.lang.reflect.Modifier.isPublic(method.getModifiers())) {
                found.put(method.getName(), method);
            }
        }
        return found;
    }

    private static List<Row> read(String text) {
        List<Row> rows = new ArrayList<>();
        for (String line : text.split("\n")) {
            if (line.startsWith("text ")) {
                for (char letter : line.substring(5).toCharArray()) {
                    rows.add(new Row("feed('" + letter + "')", METHODS.get("feed"), new Object[] {(int) letter}, null));
                }
            } else if (!line.isBlank() && !line.startsWith("#")) {
                rows.addAll(readCalls(line.strip()));
            }
        }
        return rows;
    }

    private static List<Row> readCalls(String line) {
        Matcher parts = ROW.matcher(line);
        if (!parts.matches() || !METHODS.containsKey(parts.group(2))) {
            throw new IllegalStateException("no row: " + line);
        }
        int times = parts.group(1) == null ? 1 : Integer.parseInt(parts.group(1));
        Integer due = parts.group(4) == null ? null : number(parts.group(4));
        String inside = parts.group(3);
        List<Object> arguments = new ArrayList<>();
        for (String argument : inside.isEmpty() ? new String[0] : inside.split(", ")) {
            arguments.add(number(argument));
        }
        Row row = new Row(parts.group(2) + "(" + inside + ")", METHODS.get(parts.group(2)), arguments.toArray(), due);
        return java.util.Collections.nCopies(times, row);
    }

    private static Integer number(String sign) {
        if (NAMES.containsKey(sign)) {
            return NAMES.get(sign);
        }
        return sign.matches("'.'") ? Integer.valueOf(sign.charAt(1)) : Integer.valueOf(sign);
    }
}
