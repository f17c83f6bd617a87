/**
 * Boundary cases of promises 9 to 13, of "A DAY" and of "BY DRAWS": a test for each sentence that names one, with its
 * words. What the document says of days and draws is held by promise 13 (day).
 */
public final class DeedEdgesTest extends Edges {
    /** Nine ways to go from the middle; hour 0 takes 1 in from 0 1, whoever is there. */
    private static final String MIDDLE = "ground 3 3;sun 2 1 1 1;person 1 1 1;";

    public static void main(String[] args) {
        goUnknown();
        goNotOnHouses();
        goTellsWhereItWas();
        goWhereSomebodyIs();
        foldUnknown();
        foldTellsWhatWas();
        lawOutside();
        buildUnknown();
        buildOutside();
        buildNotOnPersons();
        buildTellsHowHighItWas();
        buildBeyond15Houses();
        dayOutside();
        dayWithoutCells();
        dayWithoutPersonsOrHours();
        pursesFallBelowZero();
        nobodyPaysOnAGreyDay();
        belowQItIsGrey();
        noDrawWithoutShares();
        firstHourAboveTheDraw();
        hoursWithoutSharesAreNoDays();
        personsGoNineWays();
        personsStayOnTheGround();
        personsDoNotEnterHouses();
        personsGoInOrder();
        theyPayWhereTheyWere();
        daysGoOneByOne();
        seedIsLeftOverBy31Bits();
        Check.end("DeedEdgesTest");
    }

    // ---- promise 9

    /** Promise 9: "A PERSON goes to a CELL ... UNKNOWN". */
    private static void goUnknown() {
        ShadowTax x = on("ground 4 3;person 0 0 1;person 2 1 1;");
        for (int p : beyond(2)) {
            due("9: go(" + p + ", 1, 1)", x.go(p, 1, 1), UNKNOWN);
        }
        for (int i : beyond(4)) {
            due("9: go(1, " + i + ", 0)", x.go(1, i, 0), UNKNOWN);
        }
        for (int i : beyond(3)) {
            due("9: go(1, 0, " + i + ")", x.go(1, 0, i), UNKNOWN);
        }
        due("9: 1 has not gone", placeOf(x, 1), 21);
        due("9: to the last cell", x.go(1, 3, 2), 21);
        due("9: to the first cell", x.go(1, 0, 0), 32);
        due("9: without persons", on("ground 4 3;").go(0, 0, 0), UNKNOWN);
    }

    /** Promise 9: "NOT: a house": of any height, of the text or a wall. */
    private static void goNotOnHouses() {
        ShadowTax x = on("ground 4 1;house 1 0 1;house 2 0 9;person 0 0 1;");
        due("9: a house 1 high", x.go(0, 1, 0), NOT);
        due("9: a house 9 high", x.go(0, 2, 0), NOT);
        x.build(3, 0, 1);
        due("9: a wall", x.go(0, 3, 0), NOT);
        due("9: it stays", placeOf(x, 0), 0);
        x.build(1, 0, 0);
        due("9: no house any more", x.go(0, 1, 0), 0);
        due("9: it went", placeOf(x, 0), 10);
    }

    /** Promise 9: "10 times X and Y where it was", its own cell among others. */
    private static void goTellsWhereItWas() {
        ShadowTax x = on("ground 6 8;person 5 7 1;");
        due("9: to its own cell", x.go(0, 5, 7), 57);
        due("9: to the first", x.go(0, 0, 0), 57);
        due("9: to 0 7", x.go(0, 0, 7), 0);
        due("9: to 5 0", x.go(0, 5, 0), 7);
        due("9: back", x.go(0, 5, 7), 50);
    }

    /** Promise 9: only a house keeps it from a cell: neither another PERSON nor the dark does. */
    private static void goWhereSomebodyIs() {
        ShadowTax x = on("ground 4 1;house 3 0 9;sun 0 1 1 1;person 0 0 1;person 1 0 1;");
        due("9: onto another's cell", x.go(0, 1, 0), 0);
        due("9: both are there", placeOf(x, 1), 10);
        due("9: into the dark", x.go(0, 2, 0), 10);
    }

    // ---- promises 10 and 11

    /** Promise 10: "UNKNOWN." */
    private static void foldUnknown() {
        ShadowTax x = on("ground 4 3;person 0 0 1;person 2 1 1;");
        for (int p : beyond(2)) {
            due("10: fold(" + p + ", true)", x.fold(p, true), UNKNOWN);
            due("10: fold(" + p + ", false)", x.fold(p, false), UNKNOWN);
        }
        due("10: 0 is not FOLDED", x.person(0, 3), 0);
        due("10: 1 is not FOLDED", x.person(1, 3), 0);
    }

    /** Promise 10: "Its hat is FOLDED, or is not: 1 it was, 0 it was not", each way, twice, too. */
    private static void foldTellsWhatWas() {
        ShadowTax x = on("ground 4 3;person 0 0 1;person 2 1 1;");
        due("10: it was not, stays not", x.fold(1, false), 0);
        due("10: it was not", x.fold(1, true), 0);
        due("10: it was, stays", x.fold(1, true), 1);
        due("10: the other one was not", x.fold(0, false), 0);
        due("10: it was", x.fold(1, false), 1);
        due("10: it was not again", x.fold(1, false), 0);
    }

    /** Promise 11: "LAW becomes v (0, 1): what it was. OUTSIDE." */
    private static void lawOutside() {
        ShadowTax x = new ShadowTax();
        due("11: law(0)", x.law(0), 0);
        due("11: law(1)", x.law(1), 0);
        for (int v : beyond(2)) {
            due("11: law(" + v + ")", x.law(v), OUTSIDE);
            due("11: law(" + v + "), it stays", x.told(5), 1);
        }
        due("11: law(1) again", x.law(1), 1);
        due("11: law(0) again", x.law(0), 1);
        due("11: told(5)", x.told(5), 0);
    }

    // ---- promise 12

    /** Promise 12: "What stands on a CELL ... UNKNOWN". */
    private static void buildUnknown() {
        ShadowTax x = on("ground 4 3;");
        for (int i : beyond(4)) {
            due("12: build(" + i + ", 0, 1)", x.build(i, 0, 1), UNKNOWN);
        }
        for (int i : beyond(3)) {
            due("12: build(0, " + i + ", 1)", x.build(0, i, 1), UNKNOWN);
        }
        due("12: the first cell", x.build(0, 0, 1), 0);
        due("12: the last cell", x.build(3, 2, 1), 0);
    }

    /** Promise 12: "T high (0 .. 9; 0: nothing) ... OUTSIDE". */
    private static void buildOutside() {
        ShadowTax x = on("ground 4 3;house 1 1 5;sun 2 1 1 1;");
        for (int t : beyond(10)) {
            due("12: build(1, 1, " + t + ")", x.build(1, 1, t), OUTSIDE);
        }
        due("12: it stays", x.cell(1, 1, 0, 0), 5);
        due("12: 9 high", x.build(1, 1, 9), 5);
        due("12: 0: nothing", x.build(1, 1, 0), 9);
        due("12: there is nothing", x.cell(1, 1, 0, 0), 0);
        due("12: it is not dark behind it", x.cell(2, 1, 0, 1), 0);
    }

    /** Promise 12: "NOT: a PERSON is there (T above 0)": T 0, T 1, the last PERSON, where one was. */
    private static void buildNotOnPersons() {
        ShadowTax x = on("ground 4 3;sun 2 1 1 1;person 0 0 1;person 3 2 1;");
        due("12: where 0 is", x.build(0, 0, 1), NOT);
        due("12: where 1 is", x.build(3, 2, 9), NOT);
        due("12: nothing where 0 is", x.build(0, 0, 0), 0);
        due("12: nothing is there", x.cell(0, 0, 0, 0), 0);
        x.go(0, 1, 0);
        due("12: where 0 was", x.build(0, 0, 1), 0);
        due("12: where 0 is now", x.build(1, 0, 1), NOT);
        due("12: T beyond where 0 is now", x.build(1, 0, 10), OUTSIDE);
    }

    /** Promise 12: "becomes T high ...: how high it was", as high as before, too. */
    private static void buildTellsHowHighItWas() {
        ShadowTax x = on("ground 4 3;house 3 2 4;sun 2 1 1 1;");
        due("12: nothing of nothing", x.build(0, 0, 0), 0);
        due("12: 1 of nothing", x.build(0, 0, 1), 0);
        due("12: 1 of 1", x.build(0, 0, 1), 1);
        due("12: 9 of 1", x.build(0, 0, 9), 1);
        due("12: nothing of 9", x.build(0, 0, 0), 9);
        due("12: 5 of the text's 4", x.build(3, 2, 5), 4);
        due("12: 5 high", x.cell(3, 2, 0, 0), 5);
    }

    /** Promise 12: "(15 at most" is said of the text: a wall more may be built, on all 48 cells. */
    private static void buildBeyond15Houses() {
        ShadowTax x = on(houses(15) + "sun 2 1 3 1;");
        for (int c = 15; c < 48; c++) {
            due("12: a house more on " + c, x.build(c % 8, c / 8, 9), 0);
        }
        for (int c = 0; c < 48; c++) {
            due("12: dark between houses alone, " + c, x.cell(c % 8, c / 8, 0, 1), 0);
        }
    }

    // ---- promise 13

    /** Promise 13: "n DAYS (1 .. 99): THE TREASURY. OUTSIDE". */
    private static void dayOutside() {
        ShadowTax x = on(MIDDLE);
        int[] before = shown(x);
        for (int n : new int[] {Integer.MIN_VALUE, -99, -1, 0, 100, 101, 355, Integer.MAX_VALUE}) {
            due("13: day(" + n + ")", x.day(n), OUTSIDE);
        }
        same("13: days outside", shown(x), before);
        Check.isTrue("13: day(1)", x.day(1) >= 0);
        Check.isTrue("13: day(99)", x.day(99) >= 0);
    }

    /** Promise 13: "NOT: no CELLS." */
    private static void dayWithoutCells() {
        ShadowTax x = new ShadowTax();
        x.seed(5);
        due("13: new, day(1)", x.day(1), NOT);
        due("13: new, day(99)", x.day(99), NOT);
        due("13: new, day(0)", x.day(0), OUTSIDE);
        due("13: new, day(100)", x.day(100), OUTSIDE);
        due("13: no draw", x.seed(0), 5);
        x = on(MIDDLE);
        x.ground();
        due("13: an empty ground", x.day(1), NOT);
    }

    /** Promise 13: without persons, hours, both: a DRAW of 100 each day, one of the shares if there are hours. */
    private static void dayWithoutPersonsOrHours() {
        ShadowTax x = on("ground 1 1;");
        due("13: cells alone", x.day(1), 0);
        due("13: cells alone, one draw", x.seed(0), drawn(0));
        x = on("ground 1 1;sun 2 1 1 1;");
        due("13: nobody pays", x.day(1), 0);
        due("13: nobody, two draws", x.seed(0), drawnTimes(0, 2));
        x = on("ground 1 1;person 0 0 9;");
        due("13: no hours", x.day(1), 0);
        due("13: no hours, two draws", x.seed(0), drawnTimes(0, 2));
        x = on("ground 1 1;");
        due("13: 99 days", x.day(99), 0);
        due("13: 99 draws", x.seed(0), drawnTimes(0, 99));
    }

    /** Promise 13: "each PURSE pays what is OWED at the HOUR (it may fall below 0), THE TREASURY has it". */
    private static void pursesFallBelowZero() {
        ShadowTax x = on("ground 4 1;sun 2 1 1 1;person 0 0 1;person 3 0 1;");
        int staying = seedFor(new int[] {100, 1, 9, 9}, new int[] {50, 0, 4, 4});
        due("13: PURSE at first", x.person(0, 4), 0);
        for (int i = 1; i <= 3; i++) {
            x.seed(staying);
            due("13: one is owed, day " + i, x.day(1), i);
            due("13: PURSE below 0, day " + i, x.person(0, 4), -i);
            due("13: nothing is owed, day " + i, x.person(1, 4), 0);
            due("13: told(6), day " + i, x.told(6), i);
        }
        // Six persons, 495 days.
        x = on("ground 8 6;" + repeated("sun 2 1 3 1;", 6) + "person 0 0 9;person 0 1 9;person 0 2 9;person 0 3 9;person 0 4 9;person 0 5 9;");
        int sum = 0;
        for (int i = 0; i < 5; i++) {
            sum = x.day(99);
        }
        int purses = 0;
        for (int p = 0; p < 6; p++) {
            purses += x.person(p, 4);
        }
        due("13: purses pay all that comes in", purses, -sum);
        Check.isTrue("13: much comes in", sum > 1000);
    }

    /** Promise 13: "on a grey day nobody pays", but each PERSON goes. */
    private static void nobodyPaysOnAGreyDay() {
        ShadowTax x = on(MIDDLE + "grey 100;");
        int seed = seedFor(new int[] {100, 9}, new int[] {99, 8});
        x.seed(seed);
        due("13: a grey day", x.day(1), 0);
        due("13: PURSE", x.person(0, 4), 0);
        due("13: it went", placeOf(x, 0), 22);
        due("13: no draw of the shares", x.seed(0), drawnTimes(seed, 2));
    }

    /** Promise 13: "a DRAW of 100: below Q it is grey": Q less 1, Q; Q 0 and the DRAW 0; Q 100 and the DRAW 99. */
    private static void belowQItIsGrey() {
        int[][] cases = {{0, 0, 1}, {0, 99, 1}, {1, 0, 0}, {1, 1, 1}, {50, 49, 0}, {50, 50, 1}, {99, 98, 0}, {99, 99, 1}, {100, 99, 0}, {100, 0, 0}};
        for (int[] one : cases) {
            ShadowTax x = on(MIDDLE + "grey " + one[0] + ";");
            x.seed(seedFor(new int[] {100}, new int[] {one[1]}));
            due("13: Q " + one[0] + ", the DRAW of 100 is " + one[1], x.day(1), one[2]);
        }
        ShadowTax x = on(MIDDLE);
        x.seed(seedFor(new int[] {100}, new int[] {0}));
        due("13: Q untold, the DRAW of 100 is 0", x.day(1), 1);
    }

    /** Promise 13: "else, if there are shares, a DRAW of all shares together": without, PERSONS go by the next DRAW. */
    private static void noDrawWithoutShares() {
        for (String suns : new String[] {"", "sun 2 1 1 0;", "sun 2 1 1 0;sun 0 1 1 0;"}) {
            ShadowTax x = on("ground 3 3;" + suns + "person 1 1 1;");
            int seed = seedFor(new int[] {100, 9}, new int[] {99, 2});
            x.seed(seed);
            due("13: without shares", x.day(1), 0);
            due("13: without shares, it goes", placeOf(x, 0), 20);
            due("13: without shares, two draws", x.seed(0), drawnTimes(seed, 2));
        }
    }

    /** Promise 13: "the first HOUR up to which shares together are above it": at each share's first and last DRAW. */
    private static void firstHourAboveTheDraw() {
        // Shares 2, 1, 20: hour 0 for 0 and 1, hour 1 for 2, hour 2 for 3 .. 22; each takes another sum in.
        String text = "ground 4 1;sun 2 1 1 2;sun 2 1 2 1;sun 2 1 3 20;person 0 0 1;";
        int[][] cases = {{0, 1}, {1, 1}, {2, 2}, {3, 3}, {22, 3}};
        for (int[] one : cases) {
            ShadowTax x = on(text);
            x.seed(seedFor(new int[] {100, 23}, new int[] {99, one[0]}));
            due("13: the DRAW of 23 is " + one[0], x.day(1), one[1]);
        }
        // Six hours of 20: a DRAW of 120.
        ShadowTax x = on("ground 4 1;" + repeated("sun 2 1 1 20;", 5) + "sun 2 1 3 20;person 0 0 1;");
        x.seed(seedFor(new int[] {100, 120}, new int[] {99, 99}));
        due("13: the DRAW of 120 is 99", x.day(1), 1);
        x.go(0, 0, 0);
        x.seed(seedFor(new int[] {100, 120}, new int[] {99, 100}));
        due("13: the DRAW of 120 is 100", x.day(1), 1 + 3);
        x.go(0, 0, 0);
        x.seed(seedFor(new int[] {100, 120}, new int[] {99, 119}));
        due("13: the DRAW of 120 is 119", x.day(1), 1 + 3 + 3);
    }

    /** Promise 13: an HOUR whose S is 0 is never that of a DAY, first, between, or last. */
    private static void hoursWithoutSharesAreNoDays() {
        String text = "ground 8 1;sun 2 1 3 0;sun 2 1 1 1;sun 2 1 3 0;sun 2 1 2 1;sun 2 1 3 0;person 0 0 1;";
        for (int d = 0; d < 2; d++) {
            ShadowTax x = on(text);
            x.seed(seedFor(new int[] {100, 2}, new int[] {99, d}));
            due("13: the DRAW of 2 is " + d, x.day(1), d + 1);
        }
        ShadowTax x = on("ground 4 1;sun 2 1 3 0;sun 2 1 1 1;sun 2 1 3 0;person 0 0 1;");
        int before = 0;
        for (int i = 0; i < 20; i++) {
            x.go(0, 0, 0);
            int now = x.day(1);
            due("13: one hour has all shares, day " + i, now - before, 1);
            before = now;
        }
    }

    /** Promise 13: "by a DRAW of 9, d: d left over by 3 less 1 along X, d / 3 less 1 along Y": d 0 .. 8. */
    private static void personsGoNineWays() {
        for (int d = 0; d < 9; d++) {
            ShadowTax x = on(MIDDLE);
            int seed = seedFor(new int[] {100, 1, 9}, new int[] {99, 0, d});
            x.seed(seed);
            x.day(1);
            due("13: the DRAW of 9 is " + d, placeOf(x, 0), 10 * (d % 3) + d / 3);
            due("13: three draws", x.seed(0), drawnTimes(seed, 3));
        }
    }

    /** Promise 13: "if that CELL is on the ground": at each side and corner, without going round. */
    private static void personsStayOnTheGround() {
        int[] places = {0, 10, 20, 1, 21, 2, 12, 22};
        for (int place : places) {
            for (int d = 0; d < 9; d++) {
                ShadowTax x = on("ground 3 3;person " + place / 10 + " " + place % 10 + " 1;");
                x.seed(seedFor(new int[] {100, 9}, new int[] {99, d}));
                x.day(1);
                int toX = place / 10 + d % 3 - 1;
                int toY = place % 10 + d / 3 - 1;
                boolean is = toX >= 0 && toX < 3 && toY >= 0 && toY < 3;
                due("13: from " + place + " the DRAW of 9 is " + d, placeOf(x, 0), is ? 10 * toX + toY : place);
            }
        }
        ShadowTax x = on("ground 1 1;person 0 0 1;");
        x.day(99);
        due("13: one cell", placeOf(x, 0), 0);
    }

    /** Promise 13: "without a house"; where somebody is, it may go. */
    private static void personsDoNotEnterHouses() {
        for (int d = 0; d < 9; d++) {
            ShadowTax x = on("ground 3 3;person 1 1 1;");
            if (d != 4) {
                x.build(d % 3, d / 3, 1);
            }
            x.seed(seedFor(new int[] {100, 9}, new int[] {99, d}));
            x.day(1);
            due("13: a house on way " + d, placeOf(x, 0), 11);
        }
        ShadowTax x = on("ground 3 3;person 1 1 1;person 2 1 1;");
        x.seed(seedFor(new int[] {100, 9, 9}, new int[] {99, 5, 4}));
        x.day(1);
        due("13: where somebody is", placeOf(x, 0), 21);
        due("13: who is there yet", placeOf(x, 1), 21);
    }

    /** Promise 13: "each PERSON in order": a DRAW for each, for one that cannot go, too. */
    private static void personsGoInOrder() {
        ShadowTax x = on("ground 3 3;person 0 0 1;person 1 1 1;person 2 2 1;");
        int seed = seedFor(new int[] {100, 9, 9, 9}, new int[] {99, 0, 2, 3});
        x.seed(seed);
        x.day(1);
        due("13: 0 cannot go", placeOf(x, 0), 0);
        due("13: 1", placeOf(x, 1), 20);
        due("13: 2", placeOf(x, 2), 12);
        due("13: four draws", x.seed(0), drawnTimes(seed, 4));
    }

    /** Promise 13: "Then, each DAY, each PERSON ... goes": what is paid is OWED ahead of that. */
    private static void theyPayWhereTheyWere() {
        ShadowTax x = on("ground 5 1;sun 2 1 3 1;person 0 0 2;person 1 0 1;");
        // 0 owes 1 .. 4 at the time, 1 nothing; then 0 goes right, and 1 goes right.
        x.seed(seedFor(new int[] {100, 1, 9, 9}, new int[] {99, 0, 5, 5}));
        due("13: the day", x.day(1), 4);
        due("13: PURSE of 0", x.person(0, 4), -4);
        due("13: PURSE of 1", x.person(1, 4), 0);
        due("13: 0 went", placeOf(x, 0), 10);
        due("13: 1 went", placeOf(x, 1), 20);
        due("8: owed then", x.owed(0, 0), 3);
    }

    /** Promise 13: "n DAYS": 99 at once are 99 one by one. */
    private static void daysGoOneByOne() {
        String text = "ground 5 4;house 2 1 2;sun 2 1 1 3;sun 1 2 2 1;sun 0 1 3 2;person 0 1 3;person 4 1 2;person 2 2 1;grey 20;";
        ShadowTax x = on(text);
        ShadowTax y = on(text);
        int last = 0;
        for (int i = 0; i < 99; i++) {
            last = y.day(1);
        }
        due("13: day(99)", x.day(99), last);
        same("13: after 99 days", shown(x), shown(y));
        due("13: purses and treasury", x.told(6), -x.person(0, 4) - x.person(1, 4) - x.person(2, 4));
    }

    /** Promise 13: "left over by 2 to the 31": from THE SEED 2147483647 on, and from such as wrap round in an int. */
    private static void seedIsLeftOverBy31Bits() {
        for (int seed : new int[] {0, 1, 2, 65535, 65536, 1073741824, 2147418112, 2147483646, 2147483647}) {
            ShadowTax x = on("ground 3 3;person 1 1 1;");
            x.seed(seed);
            x.day(1);
            int d = (int) (drawnTimes(seed, 2) / 65536 % 9);
            due("13: from the seed " + seed, placeOf(x, 0), 10 * (d % 3) + d / 3);
            due("13: THE SEED after " + seed, x.seed(0), drawnTimes(seed, 2));
        }
        ShadowTax x = on("ground 1 1;");
        x.day(1);
        due("13: THE SEED 0 becomes", x.seed(Integer.MAX_VALUE), 12345);
        x.day(1);
        due("13: THE SEED 2147483647 becomes", x.seed(0), 1043980748);
    }
}
