import java.io.IOException;
import java.nio.file.Files;
import java.nio.file.Path;
import java.util.List;
import java.util.regex.Pattern;

/** What of LANGUAGE.md can be seen in the program's text: words and signs that it rules out. */
final class LanguageTest {
    private static final Path PROGRAM = Path.of("src/main/java/FlaringWords.java");
    private static final List<String> RULED_OUT = List.of("\\bthrow\\b", "\\bthrows\\b", "\\btry\\b", "\\bcatch\\b",
            "\\bsynchronized\\b", "\\bassert\\b", "\\bpackage\\b", "\\bimport\\b", "\\bvar\\b", "->", "::",
            "\\bObject\\b", "\\bException\\b", "Exact\\b", "\\bhashCode\\b", "\\btoString\\b", "\\bequals\\b",
            "\\bThread\\b", "\\bSystem\\.(?!arraycopy\\b)", "\\bnative\\b", "\\bvolatile\\b", "\\btransient\\b",
            "\\[\\]\\[\\]\\[\\]", "\\bwhile \\(true\\)", "for \\(;;\\)", "@", "\\bstatic \\{");

    private static final Checks CHECKS = new Checks("LanguageTest");

    public static void main(String[] args) throws IOException {
        String text = Files.readString(PROGRAM);
        CHECKS.holds("signs 1 to 127 alone", text.chars().allMatch(sign -> sign > 0 && sign < 128));
        String code = text.replaceAll("(?s)/\\*.*?\\*/", "").replaceAll("//[^\n]*", "");
        for (String word : RULED_OUT) {
            CHECKS.holds("no " + word, !Pattern.compile(word).matcher(code).find());
        }
        CHECKS.end();
    }
}
