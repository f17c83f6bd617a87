import java.util.Random;

/** Runs of calls at random, always the same ones, each answered by the program and by the second reading. */
public final class OracleTest {
    private static final int RUNS = 400;
    private static final int CALLS = 512;

    private final Random random;
    private final ShadowTax tax = new ShadowTax();
    private final Oracle oracle = new Oracle();
    private final String name;
    private int calls = 0;
    private int w, h, hours, persons;

    private OracleTest(int run) {
        random = new Random(run);
        name = "run " + run + ", call ";
    }

    public static void main(String[] args) {
        for (int run = 0; run < RUNS; run++) {
            new OracleTest(run).go(run % 4 == 3);
        }
        for (int run = 0; run < 20; run++) {
            new OracleTest(RUNS + run).goOnTheGreatest(run % 2 == 0);
        }
        Check.end("OracleTest");
    }

    private void go(boolean onTexts) {
        anyCalls(5);
        while (calls < CALLS) {
            newGround(onTexts);
            anyCalls(onTexts ? 3 : 60 + upTo(300));
        }
    }

    /** All limits at once: 48 cells, 15 houses, 6 hours, 6 persons. */
    private void goOnTheGreatest(boolean wide) {
        StringBuilder text = new StringBuilder("ground " + (wide ? "8 6;" : "6 8;"));
        boolean[] taken = new boolean[48];
        for (int i = 0; i < 21; i++) {
            int c = i == 0 ? 47 : upTo(47);
            while (taken[c]) {
                c = (c + 1) % 48;
            }
            taken[c] = true;
            String place = c % (wide ? 8 : 6) + " " + c / (wide ? 8 : 6) + " ";
            text.append(i % 7 < 5 ? "house " + place + from(1, 2) + ";" : "person " + place + from(1, 9) + ";");
        }
        for (int i = 0; i < 6; i++) {
            int d = from(0, 7);
            d = d < 4 ? d : d + 1;
            text.append("sun " + d % 3 + " " + d / 3 + " " + from(1, 3) + " " + upTo(20) + ";");
        }
        begin(text.toString(), 8);
        for (int p = 0; p < persons; p++) {
            for (int hour = -1; hour < hours; hour++) {
                same("walk(" + p + ", " + hour + ")", tax.walk(p, hour), oracle.walk(p, hour));
                same("owed(" + p + ", " + hour + ")", tax.owed(p, hour), oracle.owed(p, hour));
            }
            for (int q = 0; q < persons; q++) {
                same("couple(" + p + ", " + q + ")", tax.couple(p, q), oracle.couple(p, q));
            }
            for (int what = 0; what < 2; what++) {
                same("best(" + p + ", " + what + ")", tax.best(p, what), oracle.best(p, what));
                same("bestWall(9, " + p + ", " + what + ")", tax.bestWall(9, p, what), oracle.bestWall(9, p, what));
            }
            same("couples(" + p + ")", tax.couples(p), oracle.couples(p));
            same("stood(" + p + ", -1)", tax.stood(p, -1), oracle.stood(p, -1));
        }
        same("couples(-1)", tax.couples(-1), oracle.couples(-1));
        same("richest(0)", tax.richest(0), oracle.richest(0));
        same("day(99)", tax.day(99), oracle.day(99));
        for (int c = 0; c < 48; c++) {
            int x = c % w;
            int y = c / w;
            same("wall(" + x + ", " + y + ", 3)", tax.wall(x, y, 3), oracle.wall(x, y, 3));
            same("cell(" + x + ", " + y + ", 5, 1)", tax.cell(x, y, 5, 1), oracle.cell(x, y, 5, 1));
            same("cell(" + x + ", " + y + ", 5, 3)", tax.cell(x, y, 5, 3), oracle.cell(x, y, 5, 3));
        }
    }

    /** What later calls than these answer is free. */
    private void same(String call, int got, int due) {
        if (calls < CALLS) {
            Check.due(name + calls + ": " + call, got, due);
        }
        calls++;
    }

    private int upTo(int most) {
        return random.nextInt(most + 1);
    }

    private int from(int least, int most) {
        return least + random.nextInt(most - least + 1);
    }

    // ---- texts

    private void newGround(boolean faulty) {
        begin(text(faulty), faulty ? 6 : 1);
    }

    private void begin(String text, int least) {
        for (int from = 0; from < text.length();) {
            int n = Math.min(from(least, 8), text.length() - from);
            // What stands above the lowest n bytes is not to be looked at.
            long above = n == 8 ? 0 : random.nextLong() << 8 * n;
            long bytes = above | Check.packed(text.substring(from, from + n));
            same("feed(" + n + ", " + bytes + ")", tax.feed(n, bytes), oracle.feed(n, bytes));
            from += n;
        }
        same("told(4)", tax.told(4), oracle.told(4));
        same("ground() of '" + text + "'", tax.ground(), oracle.ground());
        same("fault()", tax.fault(), oracle.fault());
        for (int what = 0; what < 12; what++) {
            same("told(" + what + ")", tax.told(what), oracle.told(what));
        }
        w = oracle.told(0);
        h = oracle.told(1);
        hours = oracle.told(2);
        persons = oracle.told(3);
    }

    private String text(boolean faulty) {
        boolean rich = upTo(3) > 0;
        int width = from(rich ? 4 : 1, 9);
        int height = from(rich ? Math.min(4, 48 / width) : 1, Math.min(9, 48 / width));
        StringBuilder text = new StringBuilder(blanks() + "ground" + blanks() + width + " " + height + blanks() + ";");
        boolean[][] taken = new boolean[width][height];
        int[] left = {upTo(faulty ? 3 : upTo(15)), from(rich ? 3 : 0, 6), from(rich ? 3 : 0, 6), upTo(1)};
        while (left[0] + left[1] + left[2] + left[3] > 0) {
            int kind = upTo(3);
            if (left[kind]-- <= 0) {
                left[kind] = 0;
                continue;
            }
            int x = upTo(width - 1);
            int y = upTo(height - 1);
            String statement;
            if (kind == 0) {
                statement = taken[x][y] ? "" : "house " + x + " " + y + " " + from(1, upTo(3) == 0 ? 9 : 2) + ";";
                taken[x][y] = true;
            } else if (kind == 1) {
                int d = from(0, 7);
                d = d < 4 ? d : d + 1;
                statement = "sun " + d % 3 + " " + d / 3 + " " + (rich ? from(1, 3) : upTo(3)) + " " + upTo(upTo(3) == 0 ? 1 : 20) + ";";
            } else if (kind == 2) {
                statement = house(text, x, y) ? "" : "person " + x + " " + y + " " + from(1, upTo(2) == 0 ? 9 : 3) + ";";
                taken[x][y] = true;
            } else {
                statement = "grey " + upTo(100) + ";";
            }
            text.append(blanks()).append(statement);
        }
        String whole = text.length() <= 500 ? text.toString() : text.substring(0, text.substring(0, 500).lastIndexOf(';') + 1);
        return faulty ? spoilt(whole) : whole;
    }

    private static boolean house(StringBuilder text, int x, int y) {
        return text.indexOf("house " + x + " " + y + " ") >= 0;
    }

    private String blanks() {
        return upTo(4) == 0 ? "  ".substring(upTo(1)) : "";
    }

    private String spoilt(String text) {
        StringBuilder spoilt = new StringBuilder(text);
        for (int i = upTo(2); i > 0 && spoilt.length() > 0; i--) {
            int at = upTo(spoilt.length() - 1);
            switch (upTo(6)) {
                case 0: spoilt.deleteCharAt(at); break;
                case 1: spoilt.setLength(at); break;
                case 2: spoilt.insert(at, (char) upTo(255)); break;
                case 3: spoilt.insert(at, upTo(1200)); break;
                case 4: spoilt.setCharAt(at, "0123456789 ;gho".charAt(upTo(14))); break;
                case 5: spoilt.append(new String[] {"house 0 0 1;", "person 0 0 1;", "grey 5;", "ground 1 1;", "sun 2 0 1 1;sun 1 1 0 0;"}[upTo(4)]); break;
                default: repeat(spoilt, new String[] {"sun 2 2 1 1;", "person " + upTo(5) + " 0 2;", "house 0 " + upTo(5) + " 1;"}[upTo(2)]);
            }
        }
        return spoilt.length() <= 500 ? spoilt.toString() : spoilt.substring(0, 500);
    }

    private void repeat(StringBuilder text, String statement) {
        for (int i = from(1, 7); i > 0; i--) {
            text.append(statement);
        }
    }

    // ---- calls

    private void anyCalls(int count) {
        for (int i = 0; i < count && calls < CALLS; i++) {
            anyCall();
        }
    }

    /** Mostly a number that there is; now and then one beyond. */
    private int number(int count) {
        int kind = upTo(19);
        return kind == 0 ? -1 : kind == 1 ? count : kind == 2 && upTo(3) == 0 ? random.nextInt() : upTo(Math.max(0, count - 1));
    }

    private void anyCall() {
        int p = number(persons);
        int x = number(w);
        int y = number(h);
        int hour = number(hours);
        switch (upTo(14)) {
            case 0: look(p, x, y, hour); break;
            case 1: case 2: case 3: change(p, x, y); break;
            case 4: case 5: where(p, x, y, hour); break;
            case 6: case 7: taxes(p, hour); break;
            case 8: images(); break;
            default: look(p, x, y, hour);
        }
    }

    private void look(int p, int x, int y, int hour) {
        int what = number(7);
        switch (upTo(3)) {
            case 0: same("told(" + what + ")", tax.told(what), oracle.told(what)); break;
            case 1:
                int kind = number(4);
                same("cell(" + x + ", " + y + ", " + hour + ", " + kind + ")", tax.cell(x, y, hour, kind), oracle.cell(x, y, hour, kind));
                break;
            case 2: same("person(" + p + ", " + what + ")", tax.person(p, what), oracle.person(p, what)); break;
            default: same("owed(" + p + ", " + hour + ")", tax.owed(p, hour), oracle.owed(p, hour));
        }
    }

    private void change(int p, int x, int y) {
        switch (upTo(5)) {
            case 0: case 1: same("go(" + p + ", " + x + ", " + y + ")", tax.go(p, x, y), oracle.go(p, x, y)); break;
            case 2:
                boolean is = random.nextBoolean();
                same("fold(" + p + ", " + is + ")", tax.fold(p, is), oracle.fold(p, is));
                break;
            case 3:
                int v = number(2);
                same("law(" + v + ")", tax.law(v), oracle.law(v));
                break;
            case 4:
                int t = upTo(1) == 0 ? 0 : number(10);
                same("build(" + x + ", " + y + ", " + t + ")", tax.build(x, y, t), oracle.build(x, y, t));
                break;
            default:
                int n = upTo(9) == 0 ? number(100) : number(6);
                same("day(" + n + ")", tax.day(n), oracle.day(n));
        }
    }

    private void where(int p, int x, int y, int hour) {
        int what = number(2);
        int q = number(persons);
        int t = number(10);
        switch (upTo(9)) {
            case 0: same("best(" + p + ", " + what + ")", tax.best(p, what), oracle.best(p, what)); break;
            case 1: same("errand(" + p + ", " + x + ", " + y + ", " + hour + ")", tax.errand(p, x, y, hour), oracle.errand(p, x, y, hour)); break;
            case 2: case 3: same("walk(" + p + ", " + hour + ")", tax.walk(p, hour), oracle.walk(p, hour)); break;
            case 4: same("couple(" + p + ", " + q + ")", tax.couple(p, q), oracle.couple(p, q)); break;
            case 5: case 6: same("couples(" + p + ")", tax.couples(p), oracle.couples(p)); break;
            case 7: same("wall(" + x + ", " + y + ", " + t + ")", tax.wall(x, y, t), oracle.wall(x, y, t)); break;
            case 8: same("bestWall(" + t + ", " + p + ", " + what + ")", tax.bestWall(t, p, what), oracle.bestWall(t, p, what)); break;
            default: same("richest(" + what + ")", tax.richest(what), oracle.richest(what));
        }
    }

    private void taxes(int p, int hour) {
        int sum = number(4) == 0 ? number(100) : Math.max(0, oracle.owed(p, hour));
        int i = number(5);
        switch (upTo(8)) {
            case 0: same("tell(" + hour + ", " + sum + ")", tax.tell(hour, sum), oracle.tell(hour, sum)); break;
            case 1: case 2: case 3: same("stood(" + p + ", " + i + ")", tax.stood(p, i), oracle.stood(p, i)); break;
            case 4: case 5: same("write(" + hour + ", " + p + ", " + sum + ")", tax.write(hour, p, sum), oracle.write(hour, p, sum)); break;
            case 6:
                if (upTo(5) == 0) {
                    same("tear()", tax.tear(), oracle.tear());
                }
                break;
            default: same("judge()", tax.judge(), oracle.judge());
        }
    }

    private void images() {
        int i = number(2);
        switch (upTo(3)) {
            case 0: case 1: same("keep(" + i + ")", tax.keep(i), oracle.keep(i)); break;
            case 2: same("goBack(" + i + ")", tax.goBack(i), oracle.goBack(i)); break;
            default:
                int v = upTo(1) == 0 ? number(1000) : random.nextInt();
                same("seed(" + v + ")", tax.seed(v), oracle.seed(v));
        }
    }
}
