import java.io.IOException;
import java.nio.file.Files;
import java.nio.file.Path;
import java.util.regex.Matcher;
import java.util.regex.Pattern;

/** The program keeps to those rules of ../shared/LANGUAGE.md that a look at its text can show. */
public final class LanguageTest {
    private static final Path PROGRAM = Path.of("src", "main", "java", "QuarryIndex.java");
    private static final int LINES = 60;
    private static final String[] BANNED = {"->", "::", "\\bcatch\\b", "\\btry\\b", "\\bfinally\\b",
        "\\bsynchronized\\b", "\\bassert\\b", "\\binstanceof\\b", "\\bstatic\\s*\\{", "\\bpackage\\b",
        "\\bpublic\\s+(?!final class QuarryIndex|QuarryIndex\\(|int|boolean|double|long)", "\\bprotected\\b",
        "\\bSystem\\b", "\\bvar\\b", "\"\\s*\\+", "\\+\\s*\"", "\\b\\w+Exact\\b"};

    private LanguageTest() {
    }

    public static void main(String[] args) throws IOException {
        Check check = new Check("LanguageTest");
        String text = Files.readString(PROGRAM);
        check.same("signs 1 to 127", text.chars().allMatch(sign -> sign > 0 && sign < 128), true);
        String code = text.replaceAll("(?s)/\\*.*?\\*/", "").replaceAll("//[^\n]*", "");
        for (String banned : BANNED) {
            Matcher matcher = Pattern.compile(banned).matcher(code);
            check.same("no " + banned, matcher.find() ? matcher.group() : null, null);
        }
        Matcher imports = Pattern.compile("(?m)^import ([^;]*);").matcher(code);
        while (imports.find()) {
            check.same("an import", imports.group(1), "java.util.Arrays");
        }
        Matcher thrown = Pattern.compile("throw ([^;]*);").matcher(code);
        while (thrown.find()) {
            check.same("throw " + thrown.group(1), thrown.group(1).matches(
                    "new (IllegalStateException|IllegalArgumentException|IndexOutOfBoundsException)\\(\"[^\"]*\"\\)"),
                    true);
        }
        checkLengths(check, text);
        check.end();
    }

    /** A method begins with a brace behind four or eight blanks and ends with one of the same depth. */
    private static void checkLengths(Check check, String text) {
        String[] lines = text.split("\n");
        for (int start = 0; start < lines.length; start++) {
            Matcher head = Pattern.compile("^((?: {4}){1,2})\\S.*\\).*\\{$").matcher(lines[start]);
            if (!head.matches()) {
                continue;
            }
            int end = start;
            while (end < lines.length && !lines[end].equals(head.group(1) + "}")) {
                end++;
            }
            check.same("short: " + lines[start].trim(), end - start < LINES, true);
        }
    }
}
