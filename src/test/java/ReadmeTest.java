import java.io.IOException;
import java.nio.file.Files;
import java.nio.file.Path;
import java.util.regex.Matcher;
import java.util.regex.Pattern;

/** README.md's example answers what README.md says, and README.md names every call. */
final class ReadmeTest {
    private static final Pattern FED = Pattern.compile("for \\(char letter : \"([^\"]*)\"\\.toCharArray.*");
    private static final Pattern CALL = Pattern.compile("x\\.(\\w+\\(.*?\\)); +// (-?\\w+): .*");

    private static final Checks CHECKS = new Checks("ReadmeTest");

    public static void main(String[] args) throws IOException {
        String readme = Files.readString(Path.of("README.md"));
        Matcher example = Pattern.compile("(?s)```java\n(.*?)```").matcher(readme);
        CHECKS.holds("there is an example", example.find());
        new Cases(CHECKS).of("promise 5: README.md's example", rows(example.group(1)));
        for (java.lang.reflect.Method method : FlaringWords.class.getDeclaredMethods()) {
            boolean open = java.lang.reflect.Modifier.isPublic(method.getModifiers());
            CHECKS.holds(method.getName() + " is named", !open || readme.contains("`" + method.getName() + "`"));
        }
        CHECKS.end();
    }

    private static String rows(String example) {
        StringBuilder rows = new StringBuilder();
        for (String line : example.split("\n")) {
            Matcher fed = FED.matcher(line);
            Matcher call = CALL.matcher(line);
            if (fed.matches()) {
                rows.append("text ").append(fed.group(1)).append('\n');
            } else if (call.matches()) {
                rows.append(call.group(1)).append(" = ").append(call.group(2)).append('\n');
            } else {
                CHECKS.holds("a line that can be read: " + line, line.equals("FlaringWords x = new FlaringWords();"));
            }
        }
        return rows.toString();
    }
}
