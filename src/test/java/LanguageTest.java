import java.io.IOException;
import java.nio.file.Files;
import java.nio.file.Path;
import java.util.List;
import java.util.regex.Matcher;
import java.util.regex.Pattern;

/** What can be seen of the rules of LANGUAGE.md in the text of the program; run from the project's root. */
public final class LanguageTest {
    private static final String[] NOT_THERE = {
        "\\b(throw|throws|try|catch|finally|synchronized|assert|import|package|protected|volatile|native)\\b",
        "\\b(equals|hashCode|toString|getClass|System|Random|Thread|Object|Math\\.\\w+Exact)\\b",
        "->", "::", "@\\w+", "\\bvar\\b", "\\bstatic\\s*\\{", "\\bnew \\w+(<\\w*>)?\\([^)]*\\)\\s*\\{",
        "\"\\s*\\+|\\+\\s*\"", "\\bstatic (?!final|int|long|boolean|void)[a-z]\\w*(\\[\\])* \\w+ *[=;]"};

    private LanguageTest() {
    }

    public static void main(String[] args) throws IOException {
        List<String> lines = Files.readAllLines(Path.of("src/main/java/ShadowTax.java"));
        boolean inComment = false;
        for (int i = 0; i < lines.size(); i++) {
            String line = lines.get(i);
            Check.isTrue("line " + (i + 1) + " has signs 1 to 127 alone", line.chars().allMatch(c -> c > 0 && c < 128));
            inComment |= line.contains("/*");
            String code = inComment ? "" : line.replaceAll("//.*", "");
            inComment &= !line.contains("*/");
            for (String pattern : NOT_THERE) {
                Matcher found = Pattern.compile(pattern).matcher(code);
                Check.isTrue("line " + (i + 1) + " has no '" + pattern + "'", !found.find());
            }
        }
        checkLengths(lines);
        Check.end("LanguageTest");
    }

    /** A method of the class begins 4 blanks in, one of a class inside 8, and ends where it began. */
    private static void checkLengths(List<String> lines) {
        Pattern head = Pattern.compile("^( {4}| {8})[a-zA-Z].*\\) \\{$");
        for (int i = 0; i < lines.size(); i++) {
            Matcher begins = head.matcher(lines.get(i));
            if (begins.find()) {
                int end = lines.subList(i, lines.size()).indexOf(begins.group(1) + "}");
                Check.isTrue("the method at line " + (i + 1) + " has some sixty lines at most", end >= 0 && end <= 60);
            }
        }
    }
}
