/** Counts the answers that are not as due, and ends a test. */
final class Check {
    private static int asked = 0;
    private static int wrong = 0;

    private Check() {
    }

    static void due(String call, long got, long want) {
        asked++;
        if (got != want) {
            wrong++;
            if (wrong <= 50) {
                System.out.println(call + " answered " + got + ", due is " + want);
            }
        }
    }

    static void isTrue(String what, boolean holds) {
        due(what, holds ? 1 : 0, 1);
    }

    /** Feeds a text eight bytes at a time: the last piece is shorter. */
    static int feed(ShadowTax tax, String text) {
        int answer = 0;
        for (int from = 0; from < text.length(); from += 8) {
            String piece = text.substring(from, Math.min(from + 8, text.length()));
            answer = tax.feed(piece.length(), packed(piece));
        }
        return answer;
    }

    static long packed(String piece) {
        long bytes = 0;
        for (int i = 0; i < piece.length(); i++) {
            bytes = bytes << 8 | piece.charAt(i) & 255;
        }
        return bytes;
    }

    static void end(String name) {
        System.out.println(name + ": " + (asked - wrong) + " answers as due, " + wrong + " not");
        if (wrong != 0 || asked == 0) {
            System.exit(1);
        }
    }
}
