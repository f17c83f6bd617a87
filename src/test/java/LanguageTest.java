import java.io.IOException;
import java.nio.file.Files;
import java.nio.file.Path;
import java.util.ArrayList;
import java.util.HashMap;
import java.util.HashSet;
import java.util.List;
import java.util.Map;
import java.util.Set;
import java.util.regex.Matcher;
import java.util.regex.Pattern;

/**
 * What can be seen of the rules of LANGUAGE.md in the text of the program; run from the project's root. It refuses what
 * the rules allow but the program does not use, too (while, doubles, lists): whoever uses that has to look at more here.
 */
public final class LanguageTest {
    private static final String[] NOT_THERE = {
        "\\b(throw|throws|try|catch|finally|synchronized|assert|import|package|protected|volatile|native)\\b",
        "\\b(equals|hashCode|toString|getClass|System|Random|Thread|Object|Math\\.\\w+Exact)\\b",
        "\\b(double|float|NaN|instanceof|Integer|ArrayList|List|StringBuilder)\\b",
        "->", "::", "@\\w+", "\\bvar\\b", "\\bstatic\\s*\\{", "\\bnew \\w+(<\\w*>)?\\([^)]*\\)\\s*\\{",
        "\"\\s*\\+|\\+\\s*\"", "\\bstatic (?!final|int|long|boolean|void)[a-z]\\w*(\\[\\])* \\w+ *[=;]"};
    /** Rule 4: what the program takes of the library, and no more. */
    private static final Set<String> LIBRARY = Set.of("Long.bitCount", "Math.max", "Math.min");
    private static final Pattern HEAD = Pattern.compile("^( {4}| {8})(?:[a-zA-Z][\\w\\[\\] ]* )?(\\w+)\\((.*)\\) \\{$");
    private static final Pattern CALL = Pattern.compile("(\\w+)\\(");
    private static final int DEEPEST = 8;

    /** The program's lines without their remarks. */
    private final List<String> code = new ArrayList<>();
    /** By a method's name: the names of all methods that those of this name call. */
    private final Map<String, Set<String>> calls = new HashMap<>();

    public static void main(String[] args) throws IOException {
        LanguageTest test = new LanguageTest();
        test.read(Files.readAllLines(Path.of("src/main/java/ShadowTax.java")));
        test.checkLines();
        test.checkMethods();
        test.checkDepths();
        Check.end("LanguageTest");
    }

    private void read(List<String> lines) {
        boolean inRemark = false;
        for (int i = 0; i < lines.size(); i++) {
            String line = lines.get(i);
            Check.isTrue("3: line " + (i + 1) + " has signs 1 to 127 alone", line.chars().allMatch(c -> c > 0 && c < 128));
            inRemark |= line.contains("/*");
            code.add(inRemark ? "" : line.replaceAll("//.*", ""));
            inRemark &= !line.contains("*/");
        }
    }

    private void checkLines() {
        Pattern library = Pattern.compile("\\b[A-Z]\\w*\\.\\w+");
        for (int i = 0; i < code.size(); i++) {
            String line = code.get(i);
            for (String pattern : NOT_THERE) {
                Check.isTrue("line " + (i + 1) + " has no '" + pattern + "'", !Pattern.compile(pattern).matcher(line).find());
            }
            for (Matcher taken = library.matcher(line); taken.find();) {
                Check.isTrue("4: line " + (i + 1) + " takes " + taken.group(), LIBRARY.contains(taken.group()));
            }
            Check.isTrue("9: line " + (i + 1) + " has loops with a bound alone", !line.matches(".*(\\bwhile\\b|\\bdo \\{|for \\([^;]*; *;).*"));
        }
    }

    /** A method of the class begins 4 blanks in, one of a class inside 8, and ends where it began. */
    private void checkMethods() {
        for (int i = 0; i < code.size(); i++) {
            Matcher head = HEAD.matcher(code.get(i));
            if (!head.find()) {
                String field = code.get(i);
                Check.isTrue("12: line " + (i + 1) + " makes what a final field holds", !field.contains("new ") || field.matches(" +(private )?final .*"));
                continue;
            }
            int length = code.subList(i, code.size()).indexOf(head.group(1) + "}");
            Check.isTrue("11: the method at line " + (i + 1) + " has some sixty lines at most", length >= 0 && length <= 60);
            Check.isTrue("11: the method at line " + (i + 1) + " has seven parameters at most", head.group(3).split(",").length <= 7);
            int end = i + Math.max(length, 0);
            checkBody(head.group(2), code.subList(i + 1, Math.max(end, i + 1)));
            i = end;
        }
    }

    /** A constructor alone makes rows. */
    private void checkBody(String name, List<String> body) {
        Set<String> called = calls.computeIfAbsent(name, key -> new HashSet<>());
        boolean isMaker = Character.isUpperCase(name.charAt(0));
        for (String line : body) {
            for (Matcher call = CALL.matcher(line); call.find();) {
                called.add(call.group(1));
            }
            Check.isTrue("12: " + name + " makes nothing new", isMaker || !line.contains("new "));
        }
    }

    /** Rules 8 and 11; methods of one name count as one, which can only make a way longer. */
    private void checkDepths() {
        Check.isTrue("the methods are found", calls.size() > 80 && calls.get("ground").contains("readInto"));
        for (String name : calls.keySet()) {
            int depth = depthOf(name, 0);
            Check.isTrue("11: calls from " + name + " go " + depth + " deep, eight at most", depth <= DEEPEST);
        }
    }

    /** A way that comes back to where it was ends beyond the bound, too. */
    private int depthOf(String name, int above) {
        int deepest = 1;
        if (above > DEEPEST || !calls.containsKey(name)) {
            return calls.containsKey(name) ? 1 : 0;
        }
        for (String called : calls.get(name)) {
            deepest = Math.max(deepest, 1 + depthOf(called, above + 1));
        }
        return deepest;
    }
}
