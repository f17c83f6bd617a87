/**
 * Boundary cases of promises 22 to 29 and of what "3 BEST PLACE" says of where somebody stood, the book, the seed and
 * images: a test for each sentence that names one, with its words.
 */
public final class ToldEdgesTest extends Edges {
    private static final String ROW = "ground 6 1;sun 2 1 1 2;sun 0 1 2 1;person 1 0 2;person 3 0 1;";

    public static void main(String[] args) {
        tellUnknown();
        tellOutside();
        tellIsFullAtTen();
        stoodUnknown();
        stoodNotSoMany();
        stoodWithNothingTold();
        stoodNowhere();
        stoodWithoutAHouse();
        stoodInOrder();
        stoodJustAsTold();
        stoodAtEachToldHour();
        writeUnknown();
        writeOutside();
        writeIsFullAt30();
        tearTellsHowMany();
        judgeOfAnEmptyBook();
        judgeTellsTheFirst();
        judgeAsItIsNow();
        seedOutside();
        seedTellsWhatItWas();
        keepUnknown();
        keepOfNoCells();
        goBackUnknown();
        goBackNotKept();
        imagesKeepWhatIsTold();
        imagesKeepNothingElse();
        imagesKeepTheFirstAndTheLast();
        imagesAreTwo();
        imagesStayAsTheyAre();
        imagesAreGoneWithTheGround();
        Check.end("ToldEdgesTest");
    }

    // ---- promise 22

    /** Promise 22: "at an HOUR ... UNKNOWN". */
    private static void tellUnknown() {
        ShadowTax x = on(ROW);
        for (int hour : beyond(2)) {
            due("22: tell(" + hour + ", 0)", x.tell(hour, 0), UNKNOWN);
        }
        due("22: nothing is told", x.told(8), 0);
        due("22: the first hour", x.tell(0, 0), 1);
        due("22: the last hour", x.tell(1, 0), 2);
        due("22: without hours", on("ground 6 1;person 1 0 2;").tell(0, 0), UNKNOWN);
        due("22: without persons", on("ground 6 1;sun 2 1 1 2;").tell(0, 0), 1);
    }

    /** Promise 22: "a sum (0 .. 99) ... OUTSIDE". */
    private static void tellOutside() {
        ShadowTax x = on(ROW);
        for (int sum : beyond(100)) {
            due("22: tell(0, " + sum + ")", x.tell(0, sum), OUTSIDE);
        }
        due("22: nothing is told", x.told(8), 0);
        due("22: sum 0", x.tell(0, 0), 1);
        due("22: sum 99", x.tell(0, 99), 2);
    }

    /** Promise 22: "how many. ... FULL (10)", "told HOURS (10 at most". */
    private static void tellIsFullAtTen() {
        ShadowTax x = on(ROW);
        for (int i = 1; i <= 10; i++) {
            due("22: tell " + i, x.tell(0, 2), i);
        }
        int many = x.stood(0, NONE);
        due("22: an 11th", x.tell(0, 99), FULL);
        due("22: ten", x.told(8), 10);
        due("23: the 11th is not told", x.stood(0, NONE), many);
        x.tear();
        due("22: the first again", x.tell(0, 2), 1);
    }

    // ---- promise 23

    /** Promise 23: "STOOD, for a PERSON ... UNKNOWN". */
    private static void stoodUnknown() {
        ShadowTax x = on(ROW);
        for (int p : beyond(2)) {
            due("23: stood(" + p + ", NONE)", x.stood(p, NONE), UNKNOWN);
            due("23: stood(" + p + ", 0)", x.stood(p, 0), UNKNOWN);
            due("23: stood(" + p + ", -2)", x.stood(p, -2), UNKNOWN);
        }
        due("23: without persons", on("ground 6 1;").stood(0, NONE), UNKNOWN);
    }

    /** Promise 23: "else the i-th; NONE: not so many (i below NONE, too)". */
    private static void stoodNotSoMany() {
        ShadowTax x = on(ROW);
        x.tell(0, 2);
        due("23: how many", x.stood(0, NONE), 4);
        due("23: the first", x.stood(0, 0), 0);
        due("23: the last", x.stood(0, 3), 30);
        for (int i : beyondButNone(4)) {
            due("23: stood(0, " + i + ")", x.stood(0, i), NONE);
        }
    }

    /** Promise 23: nothing told: each CELL without a house. */
    private static void stoodWithNothingTold() {
        ShadowTax x = on("ground 8 6;house 0 0 1;house 7 5 1;person 3 3 1;");
        due("23: nothing told, how many", x.stood(0, NONE), 46);
        due("23: nothing told, the first", x.stood(0, 0), 10);
        due("23: nothing told, the last", x.stood(0, 45), 65);
        due("23: nothing told, no more", x.stood(0, 46), NONE);
        due("23: one cell", on("ground 1 1;person 0 0 1;").stood(0, NONE), 1);
        due("23: one cell, told as", on("ground 1 1;person 0 0 1;").stood(0, 0), 0);
    }

    /** Promise 23: "how many": none. */
    private static void stoodNowhere() {
        ShadowTax x = on(ROW);
        x.tell(0, 99);
        due("23: nowhere", x.stood(0, NONE), 0);
        due("23: nowhere, the first", x.stood(0, 0), NONE);
        x.tear();
        x.tell(0, 1);
        x.tell(0, 2);
        due("23: two sums at one hour", x.stood(0, NONE), 0);
    }

    /** Promise 23: "CELLS without a house": where other PERSONS are, too. */
    private static void stoodWithoutAHouse() {
        ShadowTax x = on("ground 4 1;house 3 0 1;person 0 0 1;person 1 0 1;");
        due("23: three of four", x.stood(0, NONE), 3);
        due("23: where 1 is", x.stood(0, 1), 10);
        x.build(3, 0, 0);
        due("23: all", x.stood(0, NONE), 4);
        x.build(2, 0, 1);
        due("23: without a wall", x.stood(0, NONE), 3);
        due("23: behind it", x.stood(0, 2), 30);
    }

    /** Promise 23: "the i-th (Y by Y, X rising), told as 10 times X and Y". */
    private static void stoodInOrder() {
        ShadowTax x = on("ground 3 2;person 0 0 1;");
        int[] places = {0, 10, 20, 1, 11, 21};
        for (int i = 0; i < 6; i++) {
            due("23: stood(0, " + i + ")", x.stood(0, i), places[i]);
        }
    }

    /** Promise 23: "from which a PERSON would OWE just as told at told HOURS (... others as they are)": neither more nor less. */
    private static void stoodJustAsTold() {
        int[] from = {5, 4, 3, 2, 1, 0};
        for (int sum = 0; sum <= 6; sum++) {
            ShadowTax x = on("ground 6 1;sun 2 1 1 0;person 3 0 9;");
            x.tell(0, sum);
            due("23: just " + sum, x.stood(0, NONE), sum < 6 ? 1 : 0);
            due("23: just " + sum + ", there", x.stood(0, 0), sum < 6 ? 10 * from[sum] : NONE);
        }
        // 0 owes what both of them cast; 1 may owe 1 from 4 alone, or from 2, of whose two 0 takes one.
        ShadowTax x = on("ground 6 1;sun 2 1 1 1;person 2 0 1;person 0 0 2;");
        x.tell(0, 1);
        due("23: others as they are", x.stood(1, NONE), 3);
        due("23: from 1", x.stood(1, 0), 10);
        due("23: from 2", x.stood(1, 1), 20);
        due("23: from 4", x.stood(1, 2), 40);
        due("23: it does not go", placeOf(x, 1), 0);
    }

    /** Promise 23: each told HOUR counts, ten times the same as well as all six. */
    private static void stoodAtEachToldHour() {
        ShadowTax x = on("ground 3 3;sun 2 1 1 0;sun 0 1 1 0;sun 1 2 1 0;sun 1 0 1 0;sun 2 2 1 0;sun 0 0 1 0;person 0 0 1;");
        for (int hour = 0; hour < 6; hour++) {
            x.tell(hour, 1);
        }
        due("23: only from the middle", x.stood(0, NONE), 1);
        due("23: the middle", x.stood(0, 0), 11);
        x.tear();
        for (int i = 0; i < 9; i++) {
            x.tell(0, 1);
        }
        due("23: nine times the same", x.stood(0, NONE), 6);
        x.tell(5, 0);
        due("23: the tenth counts", x.stood(0, NONE), 4);
    }

    // ---- promise 24

    /** Promise 24: "An entry behind THE BOOK ... UNKNOWN". */
    private static void writeUnknown() {
        ShadowTax x = on(ROW);
        for (int i : beyond(2)) {
            due("24: write(" + i + ", 0, 0)", x.write(i, 0, 0), UNKNOWN);
            due("24: write(0, " + i + ", 0)", x.write(0, i, 0), UNKNOWN);
        }
        due("24: the book is empty", x.told(9), 0);
        due("24: the last of both", x.write(1, 1, 0), 1);
        due("24: without hours", on("ground 6 1;person 1 0 2;").write(0, 0, 0), UNKNOWN);
        due("24: without persons", on("ground 6 1;sun 2 1 1 2;").write(0, 0, 0), UNKNOWN);
    }

    /** Promise 24: "(sum 0 .. 99) ... OUTSIDE". */
    private static void writeOutside() {
        ShadowTax x = on(ROW);
        for (int sum : beyond(100)) {
            due("24: write(0, 0, " + sum + ")", x.write(0, 0, sum), OUTSIDE);
        }
        due("24: the book is empty", x.told(9), 0);
        due("24: sum 0", x.write(0, 0, 0), 1);
        due("24: sum 99", x.write(0, 0, 99), 2);
    }

    /** Promise 24: "how many. ... FULL (30)", "THE BOOK is a row of (HOUR, PERSON, sum), 30 at most". */
    private static void writeIsFullAt30() {
        ShadowTax x = on(ROW);
        for (int i = 1; i <= 30; i++) {
            due("24: write " + i, x.write(0, 0, 2), i);
        }
        due("24: a 31st", x.write(0, 0, 3), FULL);
        due("24: 30", x.told(9), 30);
        due("26: the 31st is not in it", x.judge(), NONE);
        x.tear();
        due("24: the first again", x.write(0, 0, 2), 1);
    }

    // ---- promises 25 and 26

    /** Promise 25: "No ERRANDS, nothing told, THE BOOK is empty: how many of all there were": none, each alone, all at most. */
    private static void tearTellsHowMany() {
        ShadowTax x = on(ROW);
        due("25: none", x.tear(), 0);
        x.errand(0, 0, 0, 0);
        due("25: an errand", x.tear(), 1);
        x.tell(0, 0);
        due("25: something told", x.tear(), 1);
        x.write(0, 0, 0);
        due("25: an entry", x.tear(), 1);
        for (int i = 0; i < 31; i++) {
            x.errand(0, 0, 0, 0);
            x.tell(0, 0);
            x.write(0, 0, 0);
        }
        due("25: all at their most", x.tear(), 10 + 10 + 30);
        due("25: none again", x.tear(), 0);
        for (int what = 7; what <= 9; what++) {
            due("25: told(" + what + ")", x.told(what), 0);
        }
        due("25: new", new ShadowTax().tear(), 0);
    }

    /** Promise 26: "WRONG; NONE." of an empty book, of one that is right. */
    private static void judgeOfAnEmptyBook() {
        due("26: new", new ShadowTax().judge(), NONE);
        ShadowTax x = on(ROW);
        due("26: empty", x.judge(), NONE);
        x.write(0, 0, 2);
        x.write(1, 1, 2);
        due("26: right", x.judge(), NONE);
        x.tear();
        due("26: torn", x.judge(), NONE);
    }

    /** Promise 26: "the first by which that is not what is OWED": the 1st, one between, the 30th; by 1 more, 1 less. */
    private static void judgeTellsTheFirst() {
        for (int wrong = 0; wrong < 30; wrong++) {
            ShadowTax x = on(ROW);
            for (int i = 0; i < 30; i++) {
                x.write(0, 0, i < wrong ? 2 : wrong % 2 == 0 ? 1 : 3);
            }
            due("26: from " + wrong + " on all are wrong", x.judge(), wrong);
        }
    }

    /** Promise 26: "what is OWED": as it is when it is asked. */
    private static void judgeAsItIsNow() {
        ShadowTax x = on(ROW);
        x.write(0, 0, 2);
        x.write(0, 1, 1);
        due("26: right", x.judge(), NONE);
        x.fold(1, true);
        due("26: the second", x.judge(), 1);
        x.go(0, 4, 0);
        due("26: the first", x.judge(), 0);
    }

    // ---- promise 27

    /** Promise 27: "THE SEED becomes v (0 .. 2147483647) ... OUTSIDE." */
    private static void seedOutside() {
        ShadowTax x = new ShadowTax();
        x.seed(9);
        for (int v : new int[] {-1, -2, -9, Integer.MIN_VALUE, Integer.MIN_VALUE + 1}) {
            due("27: seed(" + v + ")", x.seed(v), OUTSIDE);
        }
        due("27: it stays", x.seed(0), 9);
    }

    /** Promise 27: "what it was", "0 at first", at both ends. */
    private static void seedTellsWhatItWas() {
        ShadowTax x = new ShadowTax();
        due("27: seed(2147483647)", x.seed(2147483647), 0);
        due("27: seed(2147483646)", x.seed(2147483646), 2147483647);
        due("27: seed(0)", x.seed(0), 2147483646);
        due("27: seed(0) again", x.seed(0), 0);
    }

    // ---- promises 28 and 29

    /** Promise 28: "IMAGE i becomes what is so: 1. UNKNOWN.", "IMAGES 0, 1". */
    private static void keepUnknown() {
        ShadowTax x = on(ROW);
        for (int i : beyond(2)) {
            due("28: keep(" + i + ")", x.keep(i), UNKNOWN);
        }
        due("29: image 0 is not kept by them", x.goBack(0), NOT);
        due("29: image 1 is not kept by them", x.goBack(1), NOT);
        due("28: keep(0)", x.keep(0), 1);
        due("28: keep(0) again", x.keep(0), 1);
        due("28: keep(1)", x.keep(1), 1);
    }

    /** Promise 28, 29: an image of no CELLS: LAW, THE SEED. */
    private static void keepOfNoCells() {
        ShadowTax x = new ShadowTax();
        x.seed(7);
        due("28: keep(0) without cells", x.keep(0), 1);
        x.law(1);
        x.seed(8);
        due("29: goBack(0) without cells", x.goBack(0), 1);
        due("29: LAW", x.told(5), 0);
        due("29: THE SEED", x.seed(0), 7);
        due("29: no cells", x.told(0), 0);
    }

    /** Promise 29: "What is so becomes IMAGE i: 1. UNKNOWN". */
    private static void goBackUnknown() {
        ShadowTax x = on(ROW);
        x.keep(0);
        x.keep(1);
        for (int i : beyond(2)) {
            due("29: goBack(" + i + ")", x.goBack(i), UNKNOWN);
        }
        due("29: goBack(0)", x.goBack(0), 1);
        due("29: goBack(1)", x.goBack(1), 1);
    }

    /** Promise 29: "NOT: it was not kept": the other one alone, none. */
    private static void goBackNotKept() {
        for (int i = 0; i < 2; i++) {
            due("29: new, goBack(" + i + ")", new ShadowTax().goBack(i), NOT);
            ShadowTax x = on(ROW);
            due("29: goBack(" + i + ")", x.goBack(i), NOT);
            x.keep(1 - i);
            int[] before = shown(x);
            due("29: goBack(" + i + "), the other one is kept", x.goBack(i), NOT);
            same("29: goBack that is refused", shown(x), before);
            due("29: the other one", x.goBack(1 - i), 1);
        }
    }

    /** Promise 28, 29: "where PERSONS are, what is FOLDED, PURSES, THE TREASURY, houses (walls), LAW, THE SEED": each of them. */
    private static void imagesKeepWhatIsTold() {
        ShadowTax x = on(ROW + "house 5 0 2;");
        x.seed(3);
        x.day(4);
        x.fold(1, true);
        int[] before = shown(x);
        int[] kept = {placeOf(x, 0), x.person(0, 4), x.told(6), seedOf(x)};
        x.keep(0);
        x.go(0, kept[0] == 0 ? 1 : 0, 0);
        due("29: where 0 is", goneBack(x) + placeOf(x, 0), kept[0]);
        x.fold(0, true);
        due("29: what is not FOLDED", goneBack(x) + x.person(0, 3), 0);
        x.fold(1, false);
        due("29: what is FOLDED", goneBack(x) + x.person(1, 3), 1);
        x.law(1);
        due("29: LAW", goneBack(x) + x.told(5), 0);
        x.seed(5);
        due("29: THE SEED", goneBack(x) + seedOf(x), kept[3]);
        x.day(50);
        due("29: PURSE", goneBack(x) + x.person(0, 4), kept[1]);
        x.day(50);
        due("29: THE TREASURY", goneBack(x) + x.told(6), kept[2]);
        x.build(5, 0, 0);
        due("29: a house that was", goneBack(x) + x.cell(5, 0, 0, 0), 2);
        due("29: dark again", x.cell(4, 0, 1, 1), 1);
        x.go(0, 0, 0);
        x.go(1, 0, 0);
        due("12: a wall", x.build(3, 0, 3), 0);
        due("29: a wall that was not", goneBack(x) + x.cell(3, 0, 0, 0), 0);
        same("29: all that is shown", shown(x), before);
    }

    private static int goneBack(ShadowTax x) {
        due("29: goBack(0)", x.goBack(0), 1);
        return 0;
    }

    /** Promise 28, 29: nothing else is kept: ERRANDS, what is told, THE BOOK, THE TEXT stay as they are. */
    private static void imagesKeepNothingElse() {
        ShadowTax x = on(ROW + "grey 5;");
        x.errand(0, 0, 0, 0);
        x.tell(0, 0);
        x.write(0, 0, 0);
        x.keep(0);
        x.feed(3, 0);
        x.errand(1, 0, 0, 0);
        x.tell(0, 0);
        x.write(0, 0, 0);
        x.goBack(0);
        due("29: THE TEXT", x.told(4), 3);
        due("29: ERRANDS", x.told(7), 2);
        due("29: told of STOOD", x.told(8), 2);
        due("29: THE BOOK", x.told(9), 2);
        due("29: Q", x.told(11), 5);
        x.tear();
        x.goBack(0);
        due("29: nothing torn comes again", x.tear(), 0);
    }

    /** Promise 28, 29: "where PERSONS are, what is FOLDED, PURSES, ... houses": of all six PERSONS and all 48 CELLS. */
    private static void imagesKeepTheFirstAndTheLast() {
        ShadowTax x = on("ground 8 6;sun 2 1 1 1;" + repeated("person 0 1 2;", 6));
        x.build(0, 0, 1);
        x.build(7, 5, 9);
        x.day(30);
        x.fold(0, true);
        x.fold(5, true);
        int[] kept = sixAndCorners(x);
        x.keep(1);
        x.build(0, 0, 0);
        x.build(7, 5, 0);
        x.day(30);
        for (int p = 0; p < 6; p++) {
            x.fold(p, p % 5 != 0);
            x.go(p, 3, 3);
        }
        x.goBack(1);
        same("29: six persons, two houses", sixAndCorners(x), kept);
        due("29: the house on the first cell", x.cell(0, 0, 0, 0), 1);
        due("29: the house on the last cell", x.cell(7, 5, 0, 0), 9);
    }

    private static int[] sixAndCorners(ShadowTax x) {
        int[] all = new int[20];
        for (int p = 0; p < 6; p++) {
            all[3 * p] = placeOf(x, p);
            all[3 * p + 1] = x.person(p, 3);
            all[3 * p + 2] = x.person(p, 4);
        }
        all[18] = x.cell(0, 0, 0, 0);
        all[19] = x.cell(7, 5, 0, 0);
        return all;
    }

    /** Promise 28, 29: "IMAGES 0, 1": one does not change the other. */
    private static void imagesAreTwo() {
        ShadowTax x = on(ROW);
        x.keep(0);
        x.go(0, 5, 0);
        x.seed(11);
        x.keep(1);
        x.goBack(0);
        due("29: image 0, where", placeOf(x, 0), 10);
        due("29: image 0, THE SEED", seedOf(x), 0);
        x.goBack(1);
        due("29: image 1, where", placeOf(x, 0), 50);
        due("29: image 1, THE SEED", seedOf(x), 11);
        x.keep(0);
        x.go(0, 2, 0);
        x.goBack(0);
        due("29: image 0 anew", placeOf(x, 0), 50);
    }

    /** Promise 29: an image stays as it is when what is so changes, and when one goes back to it twice. */
    private static void imagesStayAsTheyAre() {
        ShadowTax x = on(ROW);
        x.keep(1);
        int[] before = shown(x);
        for (int i = 0; i < 3; i++) {
            x.goBack(1);
            same("29: time " + i, shown(x), before);
            x.day(7);
            x.fold(0, true);
            x.law(1);
            x.build(5, 0, 1);
        }
    }

    /** Promise 3, 29: "IMAGES are gone" with each new ground, and stay with a FAULT. */
    private static void imagesAreGoneWithTheGround() {
        ShadowTax x = on(ROW);
        x.keep(0);
        x.keep(1);
        Check.feed(x, "ground 6 1");
        x.ground();
        due("29: with a fault", x.goBack(0) + x.goBack(1), 2);
        x.ground();
        due("29: without cells, 0", x.goBack(0), NOT);
        due("29: without cells, 1", x.goBack(1), NOT);
        x.keep(0);
        Check.feed(x, ROW);
        x.ground();
        due("29: with another ground", x.goBack(0), NOT);
    }
}
