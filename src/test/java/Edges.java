import java.util.ArrayList;
import java.util.List;

/** What the tests share: the constants, grounds told in texts, all that can be seen of an object, draws. */
abstract class Edges {
    static final int NONE = -1, UNKNOWN = -1000000001, OUTSIDE = -1000000002, NOT = -1000000003, FULL = -1000000004;

    static void due(String call, long got, long want) {
        Check.due(call, got, want);
    }

    // ---- texts

    /** A new object whose ground this text tells. */
    static ShadowTax on(String text) {
        ShadowTax tax = new ShadowTax();
        Check.feed(tax, text);
        Check.isTrue("ground() of '" + text + "' has no fault", tax.ground() >= 0);
        return tax;
    }

    static ShadowTax reads(String text, int cells) {
        ShadowTax tax = new ShadowTax();
        Check.feed(tax, text);
        due("ground() of '" + text + "'", tax.ground(), cells);
        due("fault() of '" + text + "'", tax.fault(), NONE);
        return tax;
    }

    static void faulty(String text, int number, int place) {
        ShadowTax tax = new ShadowTax();
        Check.feed(tax, text);
        due("ground() of '" + text + "'", tax.ground(), -10 - number);
        due("fault() of '" + text + "'", tax.fault(), place);
        due("told(0) of '" + text + "'", tax.told(0), 0);
    }

    static String repeated(String statement, int times) {
        StringBuilder text = new StringBuilder();
        for (int i = 0; i < times; i++) {
            text.append(statement);
        }
        return text.toString();
    }

    /** A ground of 48 cells with so many houses from 0 0 on: 11 bytes, and 12 for each house. */
    static String houses(int count) {
        StringBuilder text = new StringBuilder("ground 8 6;");
        for (int i = 0; i < count; i++) {
            text.append("house " + i % 8 + " " + i / 8 + " 1;");
        }
        return text.toString();
    }

    /** Feeds blanks until the text has so many bytes. */
    static void fill(ShadowTax tax, int length) {
        int left = length - tax.told(4);
        for (; left >= 8; left -= 8) {
            tax.feed(8, 0x2020202020202020L);
        }
        if (left > 0) {
            tax.feed(left, 0x2020202020202020L);
        }
    }

    // ---- numbers beyond

    /** Numbers that are none of 0 .. count less 1: next to these, and far away. */
    static int[] beyond(int count) {
        return new int[] {Integer.MIN_VALUE, -65536, -2, -1, count, count + 1, 65536, Integer.MAX_VALUE};
    }

    /** The same, but for NONE, where a call takes that for a number of its own. */
    static int[] beyondButNone(int count) {
        return new int[] {Integer.MIN_VALUE, -65536, -2, count, count + 1, 65536, Integer.MAX_VALUE};
    }

    // ---- what is so

    static int seedOf(ShadowTax tax) {
        int seed = tax.seed(0);
        tax.seed(seed);
        return seed;
    }

    /** All that can be seen without a change that stays. */
    static int[] shown(ShadowTax tax) {
        List<Integer> all = new ArrayList<>();
        for (int what = 0; what <= 11; what++) {
            all.add(tax.told(what));
        }
        int width = all.get(0);
        int cells = width * all.get(1);
        int hours = all.get(2);
        int persons = all.get(3);
        for (int p = 0; p < persons; p++) {
            for (int what = 0; what <= 6; what++) {
                all.add(tax.person(p, what));
            }
            all.add(tax.walk(p, NONE));
            all.add(tax.stood(p, NONE));
        }
        for (int c = 0; c < cells; c++) {
            for (int hour = 0; hour < hours; hour++) {
                all.add(tax.cell(c % width, c / width, hour, 0));
                all.add(tax.cell(c % width, c / width, hour, 3));
            }
        }
        all.add(tax.judge());
        all.add(seedOf(tax));
        return all.stream().mapToInt(Integer::intValue).toArray();
    }

    static void same(String when, int[] got, int[] want) {
        due(when + ": how much is shown", got.length, want.length);
        for (int i = 0; i < Math.min(got.length, want.length); i++) {
            due(when + ": what is shown, " + i, got[i], want[i]);
        }
    }

    /** Where a person is: 10 times X and Y. */
    static int placeOf(ShadowTax tax, int p) {
        return 10 * tax.person(p, 0) + tax.person(p, 1);
    }

    // ---- draws

    /** What a SEED becomes by one DRAW. */
    static long drawn(long seed) {
        return (seed * 1103515245L + 12345L) % 2147483648L;
    }

    /** The least SEED from which the DRAWS of these numbers are these. */
    static int seedFor(int[] numbers, int[] draws) {
        for (int seed = 0; seed < 100000000; seed++) {
            long now = seed;
            int right = 0;
            while (right < numbers.length) {
                now = drawn(now);
                if (now / 65536 % numbers[right] != draws[right]) {
                    break;
                }
                right++;
            }
            if (right == numbers.length) {
                return seed;
            }
        }
        Check.isTrue("there is a seed for the draws", false);
        return 0;
    }

    static long drawnTimes(long seed, int times) {
        long now = seed;
        for (int i = 0; i < times; i++) {
            now = drawn(now);
        }
        return now;
    }
}
