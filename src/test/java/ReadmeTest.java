import java.io.IOException;
import java.lang.reflect.Method;
import java.nio.file.Files;
import java.nio.file.Path;
import java.util.List;
import java.util.regex.Matcher;
import java.util.regex.Pattern;

/** What README.md says of how the class is used: each call of its example answers as it stands there; run from the root. */
public final class ReadmeTest {
    private static final Pattern CALL = Pattern.compile("tax\\.(\\w+)\\((.*)\\); +// (-?\\d+|UNKNOWN|OUTSIDE|NOT|FULL|NONE)\\b.*");

    private ReadmeTest() {
    }

    public static void main(String[] args) throws Exception {
        ShadowTax tax = null;
        int asked = 0;
        for (String line : example()) {
            if (line.startsWith("ShadowTax tax = new ShadowTax();")) {
                tax = new ShadowTax();
                continue;
            }
            Matcher call = CALL.matcher(line);
            Check.isTrue("README.md: '" + line + "' tells a call and its answer", tax != null && call.matches());
            Check.due("README.md: " + line, answer(tax, call.group(1), call.group(2)), number(call.group(3)));
            asked++;
        }
        Check.isTrue("README.md has an example", asked > 0);
        Check.end("ReadmeTest");
    }

    private static List<String> example() throws IOException {
        List<String> lines = Files.readAllLines(Path.of("README.md"));
        int from = lines.indexOf("```java") + 1;
        return lines.subList(from, from + lines.subList(from, lines.size()).indexOf("```"));
    }

    private static int answer(ShadowTax tax, String name, String told) throws Exception {
        String[] numbers = told.isEmpty() ? new String[0] : told.split(", ");
        for (Method method : ShadowTax.class.getMethods()) {
            Class<?>[] types = method.getParameterTypes();
            if (!method.getName().equals(name) || types.length != numbers.length) {
                continue;
            }
            Object[] values = new Object[types.length];
            for (int i = 0; i < types.length; i++) {
                if (types[i] == long.class) {
                    values[i] = Long.decode(numbers[i].replace("L", ""));
                } else if (types[i] == int.class) {
                    values[i] = Integer.decode(numbers[i]);
                } else {
                    values[i] = Boolean.valueOf(numbers[i]);
                }
            }
            return (int) method.invoke(tax, values);
        }
        throw new IllegalArgumentException("README.md: no method " + name + " of " + numbers.length);
    }

    /** A number, or the name of one of the constants. */
    private static int number(String told) throws Exception {
        boolean isName = Character.isUpperCase(told.charAt(0));
        return isName ? ShadowTax.class.getField(told).getInt(null) : Integer.parseInt(told);
    }
}
