/** Promise by promise: ordinary calls, the edges that the document names, and each refusal in its order. */
public final class PromiseTest extends Edges {
    /** Cells 0 .. 5 in a row; at hour 0 shadows fall right, 1 a height, at hour 1 left, 2 a height. */
    private static final String ROW = "ground 6 1;sun 2 1 1 2;sun 0 1 2 1;person 1 0 2;person 3 0 1;";

    private static ShadowTax x;

    public static void main(String[] args) {
        newObject();
        feed();
        groundTakesTheText();
        groundBeginsAnew();
        texts();
        faults();
        faultsOfLimits();
        told();
        cell();
        shadows();
        laws();
        person();
        owed();
        go();
        fold();
        law();
        build();
        day();
        daysWithoutHours();
        hourOfTheHat();
        best();
        errand();
        walk();
        walkOfLikeOnes();
        couple();
        couples();
        wall();
        bestWall();
        richest();
        tell();
        stood();
        write();
        tear();
        judge();
        seed();
        keepAndGoBack();
        Check.end("PromiseTest");
    }

    // ---- the ground

    private static void newObject() {
        x = new ShadowTax();
        for (int what = 0; what < 12; what++) {
            due("new: told(" + what + ")", x.told(what), 0);
        }
        due("new: fault()", x.fault(), NONE);
        due("new: cell", x.cell(0, 0, 0, 0), UNKNOWN);
        due("new: person", x.person(0, 0), UNKNOWN);
        due("new: owed", x.owed(0, 0), UNKNOWN);
        due("new: go", x.go(0, 0, 0), UNKNOWN);
        due("new: fold", x.fold(0, true), UNKNOWN);
        due("new: build", x.build(0, 0, 1), UNKNOWN);
        due("new: day", x.day(1), NOT);
        due("new: best", x.best(0, 0), UNKNOWN);
        due("new: errand", x.errand(0, 0, 0, 0), UNKNOWN);
        due("new: walk", x.walk(0, NONE), UNKNOWN);
        due("new: couple", x.couple(0, 1), UNKNOWN);
        due("new: couples(NONE)", x.couples(NONE), 0);
        due("new: wall", x.wall(0, 0, 1), UNKNOWN);
        due("new: bestWall", x.bestWall(1, 0, 0), UNKNOWN);
        due("new: richest(0)", x.richest(0), NONE);
        due("new: richest(1)", x.richest(1), NONE);
        due("new: tell", x.tell(0, 0), UNKNOWN);
        due("new: stood", x.stood(0, NONE), UNKNOWN);
        due("new: write", x.write(0, 0, 0), UNKNOWN);
        due("new: tear()", x.tear(), 0);
        due("new: judge()", x.judge(), NONE);
        due("new: goBack(0)", x.goBack(0), NOT);
        due("new: goBack(1)", x.goBack(1), NOT);
        due("new: seed(0)", x.seed(0), 0);
    }

    private static void feed() {
        x = new ShadowTax();
        due("feed(0)", x.feed(0, 0), OUTSIDE);
        due("feed(9)", x.feed(9, 0), OUTSIDE);
        due("feed(-1)", x.feed(-1, 0), OUTSIDE);
        due("feed(max)", x.feed(Integer.MAX_VALUE, 0), OUTSIDE);
        due("feed(1)", x.feed(1, 'g'), 1);
        // Only the lowest bytes come in, the highest of these first.
        due("feed(3)", x.feed(3, 0x7878787878000000L | Check.packed("rou")), 4);
        due("feed(8)", x.feed(8, Check.packed("nd 3 2;s")), 12);
        due("feed(2)", x.feed(2, Check.packed("un")), 14);
        due("feed(8) more", x.feed(8, Check.packed(" 1 0 1 1")), 22);
        due("feed(1) end", x.feed(1, -256L | ';'), 23);
        due("told(4)", x.told(4), 23);
        due("ground()", x.ground(), 6);
        due("told(2)", x.told(2), 1);
        for (int i = 1; i <= 62; i++) {
            due("feed to " + 8 * i, x.feed(8, 0x2020202020202020L), 8 * i);
        }
        due("feed(8) to 504", x.feed(8, 0), FULL);
        due("feed(5) to 501", x.feed(5, 0), FULL);
        due("feed(9) when full", x.feed(9, 0), OUTSIDE);
        due("feed(4) to 500", x.feed(4, 0x20202020), 500);
        due("feed(1) to 501", x.feed(1, 32), FULL);
        due("told(4) full", x.told(4), 500);
        due("500 blanks", x.ground(), 0);
    }

    private static void groundTakesTheText() {
        x = new ShadowTax();
        due("no text", x.ground(), 0);
        Check.feed(x, ROW);
        due("ground()", x.ground(), 6);
        due("the text is empty", x.told(4), 0);
        due("fault()", x.fault(), NONE);
        Check.feed(x, "ground 3 3;hat");
        due("a fault", x.ground(), -11);
        due("fault() then", x.fault(), 11);
        due("the text is empty after a fault", x.told(4), 0);
        due("W stays", x.told(0), 6);
        due("persons stay", x.told(3), 2);
        due("MEAN stays", x.told(10), 9);
        Check.feed(x, "ground 9 5;");
        due("another", x.ground(), 45);
        due("fault() is gone", x.fault(), NONE);
        due("W", x.told(0), 9);
        due("H", x.told(1), 5);
        due("no hours", x.told(2), 0);
        due("no persons", x.told(3), 0);
        Check.feed(x, "  ");
        due("blanks alone", x.ground(), 0);
        due("W of none", x.told(0), 0);
        due("H of none", x.told(1), 0);
        due("day without cells", x.day(1), NOT);
    }

    private static void busy() {
        x = on(ROW + "house 5 0 3;grey 30;");
        x.law(1);
        x.seed(77);
        x.fold(0, true);
        x.day(9);
        x.build(0, 0, 0);
        x.errand(0, 0, 0, 1);
        x.errand(1, 0, 0, 1);
        x.tell(0, 1);
        x.write(0, 0, 1);
        x.keep(0);
        x.keep(1);
    }

    private static void groundBeginsAnew() {
        busy();
        int drawn = x.seed(5);
        x.seed(drawn);
        Check.isTrue("taxes came in", x.told(6) > 0);
        // What is refused by a fault leaves all as it was.
        int treasury = x.told(6);
        Check.feed(x, "ground 6 1;;");
        due("a fault", x.ground(), -11);
        due("treasury stays", x.told(6), treasury);
        due("errands stay", x.told(7), 2);
        due("told stays", x.told(8), 1);
        due("book stays", x.told(9), 1);
        due("Q stays", x.told(11), 30);
        due("folded stays", x.person(0, 3), 1);
        due("images stay", x.goBack(1), 1);
        Check.feed(x, ROW);
        due("ground()", x.ground(), 6);
        due("treasury", x.told(6), 0);
        due("errands", x.told(7), 0);
        due("told", x.told(8), 0);
        due("book", x.told(9), 0);
        due("Q", x.told(11), 0);
        due("law stays", x.told(5), 1);
        due("folded", x.person(0, 3), 0);
        due("purse", x.person(0, 4), 0);
        due("x", x.person(0, 0), 1);
        due("no house", x.cell(5, 0, 0, 0), 0);
        due("images are gone", x.goBack(0), NOT);
        due("both", x.goBack(1), NOT);
        due("seed stays", x.seed(0), drawn);
        due("tear", x.tear(), 0);
    }

    private static void texts() {
        x = reads("", 0);
        x = reads("   ", 0);
        x = reads("ground 1 1;", 1);
        x = reads("ground1 1;", 1);
        x = reads("  ground  1   1  ;  ", 1);
        x = reads("ground 001 09;", 9);
        x = reads("ground 8 6;", 48);
        x = reads("ground 6 8;", 48);
        x = reads("ground 9 5;", 45);
        x = reads("ground 4 2;grey0;person3 1 9;sun0 0 0 0;house 2 1 009 ; sun 2 2 3 20;person 3 1 1;", 8);
        due("hours", x.told(2), 2);
        due("persons on one cell", x.told(3), 2);
        due("a house", x.cell(2, 1, 0, 0), 9);
        x = reads("ground 2 1;grey 100;", 2);
        due("Q", x.told(11), 100);
        x = reads("ground 2 1;", 2);
        due("Q untold", x.told(11), 0);
    }

    private static void faults() {
        // 1: it cannot stand there.
        faulty("house 0 0 1;", 1, 0);
        faulty(" groun 1 1;", 1, 1);
        faulty("grounds 1 1;", 1, 0);
        faulty("Ground 1 1;", 1, 0);
        faulty("5 ground 1 1;", 1, 0);
        faulty(";", 1, 0);
        faulty("ground", 1, 6);
        faulty("ground  ", 1, 8);
        faulty("ground 1", 1, 8);
        faulty("ground 1 1", 1, 10);
        faulty("ground 1 1 ", 1, 11);
        faulty("ground 1;", 1, 8);
        faulty("ground 1 1 1;", 1, 11);
        faulty("ground 1 1 1234;", 1, 11);
        faulty("ground x 1;", 1, 7);
        faulty("ground 1 1;;", 1, 11);
        faulty("ground 1 1;5", 1, 11);
        faulty("ground 1 1;hous", 1, 11);
        faulty("ground 1 1;housegrey", 1, 11);
        faulty("ground 1 1;ho use 0 0 1;", 1, 11);
        faulty("ground 1 1;greya 1;", 1, 11);
        faulty("ground 1 1;greyz 1;", 1, 11);
        faulty("xround 1 1;", 1, 0);
        faulty("ground 1 1;xouse 0 0 1;", 1, 11);
        faulty("ground 1 1;xun 0 0 1 1;", 1, 11);
        faulty("ground 1 1;xerson 0 0 1;", 1, 11);
        faulty("ground 1 1;xrey 1;", 1, 11);
        faulty("ground 1 1;grez 1;", 1, 11);
        faulty("ground 1 1;house ground", 1, 17);
        faulty("ground 1 1;house 0 0", 1, 20);
        faulty("ground 1 1;house 0 0 1 grey 1;", 1, 23);
        faulty("ground 1 1;grey -1;", 1, 16);
        faulty("ground 1 1;grey 1" + (char) 9 + ";", 1, 17);
        faulty("ground 1 1;" + (char) 233, 1, 11);
        faulty("ground 1 1;" + (char) 0, 1, 11);
        // 2: numbers.
        faulty("ground 0 1;", 2, 7);
        faulty("ground 10 1;", 2, 7);
        faulty("ground 1 0;", 2, 9);
        faulty("ground 1 10;", 2, 9);
        faulty("ground 7 7;", 2, 9);
        faulty("ground 0001 1;", 2, 7);
        faulty("ground 99999999999999999999 1;", 2, 7);
        faulty("ground 1 4294967297;", 2, 9);
        faulty("ground 3 2;house 3 0 1;", 2, 17);
        faulty("ground 3 2;house 0 2 1;", 2, 19);
        faulty("ground 3 2;house 0 0 0;", 2, 21);
        faulty("ground 3 2;house 0 0 10;", 2, 21);
        faulty("ground 3 2;person 3 0 1;", 2, 18);
        faulty("ground 3 2;person 0 2 1;", 2, 20);
        faulty("ground 3 2;person 0 0 0;", 2, 22);
        faulty("ground 3 2;sun 3 0 1 1;", 2, 15);
        faulty("ground 3 2;sun 0 3 1 1;", 2, 17);
        faulty("ground 3 2;sun 0 0 4 1;", 2, 19);
        faulty("ground 3 2;sun 0 0 1 21;", 2, 21);
        faulty("ground 3 2;grey 101;", 2, 16);
        // 4: taken cells, no way. The first fault counts.
        faulty("ground 3 2;house 2 1 1;house 2 1 0;", 4, 31);
        faulty("ground 3 2;house 2 1 1;person 2 1 1;", 4, 32);
        faulty("ground 3 2;person 2 1 1;house 2 1 1;", 4, 32);
        faulty("ground 3 2;sun 1 1 9 99;", 4, 17);
        faulty("ground 3 2;sun 1 001", 4, 17);
        faulty("ground 3 2;house 2 1 1;house 2 0001 0;", 2, 31);
    }

    private static void faultsOfLimits() {
        faulty("ground 2 1;ground 2 1;", 3, 11);
        faulty("ground 2 1;ground", 3, 11);
        faulty("ground 2 1;grey 0;grey 0;", 3, 18);
        x = reads(houses(15), 48);
        faulty(houses(15) + " house", 3, 11 + 15 * 12 + 1);
        faulty(houses(15) + "house 0 0 1;", 3, 11 + 15 * 12);
        x = reads("ground 2 1;" + repeated("sun 0 1 1 1;", 6), 2);
        due("six hours", x.told(2), 6);
        faulty("ground 2 1;" + repeated("sun 0 1 1 1;", 7), 3, 11 + 6 * 12);
        x = reads("ground 2 1;" + repeated("person 1 0 1;", 6), 2);
        due("six persons", x.told(3), 6);
        // What is counted is counted anew for each text, and of a longer text before nothing is left.
        x = new ShadowTax();
        for (int i = 0; i < 3; i++) {
            Check.feed(x, houses(15) + "grey 100;");
            due("15 houses, grey", x.ground(), 48);
            due("the last house", x.cell(6, 1, 0, 0), UNKNOWN);
        }
        Check.feed(x, houses(15) + "grey 1");
        due("no end", x.ground(), -11);
        due("there", x.fault(), 11 + 15 * 12 + 6);
        Check.feed(x, "ground 8 6");
        due("no end of the first", x.ground(), -11);
        due("there", x.fault(), 10);
        Check.feed(x, "groun");
        due("no word", x.ground(), -11);
        due("there", x.fault(), 0);
        Check.feed(x, "ground 8 6;sun 2 1 1 1;");
        due("no houses", x.ground(), 48);
        for (int i = 0; i < 15; i++) {
            due("no house", x.cell(i % 8, i / 8, 0, 0), 0);
        }
        faulty("ground 2 1;" + repeated("person 1 0 1;", 7), 3, 11 + 6 * 13);
    }

    private static void told() {
        x = on("ground 6 1;sun 2 1 1 2;sun 0 1 2 1;person 1 0 2;person 3 0 1;grey 7;");
        x.errand(0, 0, 0, 0);
        x.tell(0, 0);
        x.tell(0, 0);
        x.write(0, 0, 0);
        x.write(0, 0, 0);
        x.write(0, 0, 0);
        x.law(1);
        x.feed(5, 0);
        int[] all = {6, 1, 2, 2, 5, 1, 0, 1, 2, 3, 9, 7};
        for (int what = 0; what < 12; what++) {
            due("told(" + what + ")", x.told(what), all[what]);
        }
        due("told(-1)", x.told(-1), OUTSIDE);
        due("told(12)", x.told(12), OUTSIDE);
    }

    private static void cell() {
        x = on("ground 5 2;house 2 0 3;sun 2 1 1 1;sun 0 1 1 1;person 0 0 9;person 4 0 4;person 0 1 1;person 1 1 2;");
        due("height", x.cell(2, 0, 0, 0), 3);
        due("no height", x.cell(1, 0, 0, 0), 0);
        due("dark right of it", x.cell(3, 0, 0, 1), 1);
        due("dark to the end", x.cell(4, 0, 0, 1), 1);
        due("not dark ahead of it", x.cell(1, 0, 0, 1), 0);
        due("not its own cell", x.cell(2, 0, 0, 1), 0);
        due("dark left of it at hour 1", x.cell(0, 0, 1, 1), 1);
        due("0's shadow ends ahead of the house", x.cell(1, 0, 0, 2), 1);
        due("none on the house", x.cell(2, 0, 0, 2), 0);
        due("none behind the house", x.cell(3, 0, 0, 2), 0);
        due("1's shadow in the light", x.cell(3, 0, 1, 2), 2);
        due("2's shadow ends", x.cell(1, 1, 0, 2), 4);
        due("3's shadow", x.cell(2, 1, 0, 2), 8);
        due("who owes 2 1", x.cell(2, 1, 0, 3), 3);
        due("who owes 0 0", x.cell(0, 0, 0, 3), NONE);
        due("who owes 3 0 at 1", x.cell(3, 0, 1, 3), 1);
        due("an x that there is not", x.cell(5, 0, 0, 0), UNKNOWN);
        due("an x below 0", x.cell(-1, 1, 0, 0), UNKNOWN);
        due("a y that there is not", x.cell(0, 2, 0, 0), UNKNOWN);
        due("a y below 0", x.cell(0, -1, 0, 0), UNKNOWN);
        due("an hour that there is not", x.cell(0, 0, 2, 0), UNKNOWN);
        due("an hour below 0", x.cell(0, 0, -1, 9), UNKNOWN);
        due("cell and what", x.cell(9, 9, 9, 9), UNKNOWN);
        due("what 4", x.cell(0, 0, 0, 4), OUTSIDE);
        due("what -1", x.cell(0, 0, 0, -1), OUTSIDE);
    }

    private static void shadows() {
        // Somebody in the dark has no shadow; his cells in the dark are nobody's.
        x = on("ground 7 1;house 0 0 2;sun 2 1 1 1;person 2 0 4;person 4 0 2;");
        due("dark", x.cell(2, 0, 0, 1), 1);
        due("no shadow from the dark", x.cell(3, 0, 0, 2), 0);
        due("owes nothing", x.owed(0, 0), 0);
        due("the other owes", x.owed(1, 0), 2);
        due("go left", x.go(1, 0, 0), NOT);
        x = on("ground 7 1;house 5 0 2;sun 0 1 1 1;person 6 0 4;person 4 0 2;");
        due("a house ahead", x.cell(5, 0, 0, 2), 0);
        due("1 is dark", x.owed(1, 0), 0);
        x = on("ground 3 3;sun 0 0 1 1;sun 1 0 1 1;sun 2 0 1 1;sun 0 1 1 1;sun 2 1 1 1;sun 2 2 1 1;person 1 1 1;");
        due("up left", x.cell(0, 0, 0, 2), 1);
        due("up", x.cell(1, 0, 1, 2), 1);
        due("up right", x.cell(2, 0, 2, 2), 1);
        due("left", x.cell(0, 1, 3, 2), 1);
        due("right", x.cell(2, 1, 4, 2), 1);
        due("down right", x.cell(2, 2, 5, 2), 1);
        // A house in a house's shadow; shadows that a house in the dark casts all the same.
        x = on("ground 9 1;house 0 0 9;house 3 0 1;sun 2 1 1 1;sun 2 1 3 0;sun 2 1 0 5;");
        due("ahead of the second", x.cell(2, 0, 0, 1), 1);
        due("behind the second", x.cell(4, 0, 0, 1), 1);
        due("beyond its height", x.cell(5, 0, 0, 1), 0);
        due("three a height", x.cell(6, 0, 1, 1), 1);
        due("not four", x.cell(7, 0, 1, 1), 0);
        due("none a height", x.cell(1, 0, 2, 1), 0);
    }

    private static void laws() {
        // All of 0's shadow lies in 1's, and 2 is as tall as 1.
        String text = "ground 8 1;sun 2 1 1 1;person 1 0 3;person 0 0 6;person 0 0 6;";
        x = on(text);
        due("law 0: the least owes", x.owed(0, 0), 3);
        due("law 0: 1 owes the rest", x.owed(1, 0), 3);
        due("law 0: 2 owes nothing", x.owed(2, 0), 0);
        due("three shadows", x.cell(3, 0, 0, 2), 7);
        due("law 0: cell", x.cell(3, 0, 0, 3), 0);
        x.law(1);
        due("law 1: the tallest owes", x.owed(1, 0), 6);
        due("law 1: 0 owes nothing", x.owed(0, 0), 0);
        due("law 1: of like ones the least", x.owed(2, 0), 0);
        due("law 1: cell", x.cell(3, 0, 0, 3), 1);
        x.fold(1, true);
        due("law 1: hats count", x.owed(2, 0), 6);
        due("law 1: the folded one", x.owed(1, 0), 0);
        x.fold(2, true);
        due("law 1: both folded", x.owed(1, 0), 5);
        due("law 1: 2 again", x.owed(2, 0), 0);
    }

    private static void person() {
        x = on(ROW + "sun 2 1 3 0;");
        int[] all = {1, 0, 2, 0, 0, 5, 2};
        for (int what = 0; what < 7; what++) {
            due("person(0, " + what + ")", x.person(0, what), all[what]);
        }
        due("hour 2 has no share, and is no worst", x.owed(0, 2), 4);
        due("x of 1", x.person(1, 0), 3);
        due("MEAN of 1", x.person(1, 5), 4);
        x.fold(0, true);
        due("T folded", x.person(0, 2), 1);
        due("folded", x.person(0, 3), 1);
        due("MEAN folded", x.person(0, 5), 3);
        due("WORST folded", x.person(0, 6), 1);
        due("person 2", x.person(2, 0), UNKNOWN);
        due("person -1", x.person(-1, 99), UNKNOWN);
        due("what 7", x.person(0, 7), OUTSIDE);
        due("what -1", x.person(0, -1), OUTSIDE);
        x = on("ground 2 3;person 1 2 1;");
        due("y", x.person(0, 1), 2);
        due("MEAN without hours", x.person(0, 5), 0);
        due("WORST without hours", x.person(0, 6), 0);
        x = on("ground 3 1;sun 2 1 1 0;person 0 0 2;");
        due("WORST without shares", x.person(0, 6), 0);
        due("MEAN without shares", x.person(0, 5), 0);
        due("owed without shares", x.owed(0, 0), 2);
    }

    private static void owed() {
        x = on(ROW);
        due("owed(0, 0)", x.owed(0, 0), 2);
        due("owed(0, 1)", x.owed(0, 1), 1);
        due("owed(1, 0)", x.owed(1, 0), 1);
        due("owed(1, 1)", x.owed(1, 1), 2);
        due("owed(2, 0)", x.owed(2, 0), UNKNOWN);
        due("owed(-1, 0)", x.owed(-1, 0), UNKNOWN);
        due("owed(0, 2)", x.owed(0, 2), UNKNOWN);
        due("owed(0, -1)", x.owed(0, -1), UNKNOWN);
    }

    // ---- what is done

    private static void go() {
        x = on("ground 5 4;house 2 1 2;sun 2 1 1 1;person 3 2 2;person 0 0 1;");
        due("go(0, 4, 3)", x.go(0, 4, 3), 32);
        due("x", x.person(0, 0), 4);
        due("y", x.person(0, 1), 3);
        due("onto the other", x.go(0, 0, 0), 43);
        due("onto its own cell", x.go(0, 0, 0), 0);
        due("a house", x.go(0, 2, 1), NOT);
        x.build(2, 1, 1);
        due("a low house", x.go(0, 2, 1), NOT);
        due("person 2", x.go(2, 2, 1), UNKNOWN);
        due("person -1", x.go(-1, 0, 0), UNKNOWN);
        due("x 5", x.go(0, 5, 0), UNKNOWN);
        due("x -1", x.go(0, -1, 1), UNKNOWN);
        due("y 4", x.go(0, 0, 4), UNKNOWN);
        due("y -1", x.go(0, 0, -1), UNKNOWN);
        due("x stays", x.person(0, 0), 0);
        x.build(2, 1, 0);
        due("no house any more", x.go(0, 2, 1), 0);
        due("from there", x.go(0, 1, 3), 21);
    }

    private static void fold() {
        x = on(ROW);
        due("fold(1, true)", x.fold(1, true), 0);
        due("again", x.fold(1, true), 1);
        due("T 0", x.person(1, 2), 0);
        due("no shadow", x.owed(1, 1), 0);
        due("not the other", x.person(0, 3), 0);
        due("fold(1, false)", x.fold(1, false), 1);
        due("again not", x.fold(1, false), 0);
        due("T 1", x.person(1, 2), 1);
        due("person 2", x.fold(2, true), UNKNOWN);
        due("person -1", x.fold(-1, true), UNKNOWN);
    }

    private static void law() {
        x = new ShadowTax();
        due("law(1)", x.law(1), 0);
        due("law(1) again", x.law(1), 1);
        due("law(2)", x.law(2), OUTSIDE);
        due("law(-1)", x.law(-1), OUTSIDE);
        due("law(0)", x.law(0), 1);
        due("told(5)", x.told(5), 0);
    }

    private static void build() {
        x = on("ground 6 1;house 5 0 4;sun 2 1 1 2;sun 0 1 1 1;person 1 0 2;");
        due("build(3, 0, 9)", x.build(3, 0, 9), 0);
        due("height", x.cell(3, 0, 0, 0), 9);
        due("dark behind it", x.cell(4, 0, 0, 1), 1);
        due("in the dark", x.owed(0, 1), 0);
        due("ends ahead of it", x.owed(0, 0), 1);
        due("lower", x.build(3, 0, 1), 9);
        due("not dark", x.cell(1, 0, 1, 1), 0);
        due("nothing", x.build(3, 0, 0), 1);
        due("light", x.owed(0, 0), 2);
        due("a house of the text", x.build(5, 0, 0), 4);
        due("nothing of nothing", x.build(5, 0, 0), 0);
        due("a person", x.build(1, 0, 1), NOT);
        due("a person, nothing", x.build(1, 0, 0), 0);
        due("t 10", x.build(1, 0, 10), OUTSIDE);
        due("t -1", x.build(1, 0, -1), OUTSIDE);
        due("x 6", x.build(6, 0, 10), UNKNOWN);
        due("y 1", x.build(0, 1, 1), UNKNOWN);
        x = on("ground 8 6;");
        for (int i = 0; i < 48; i++) {
            due("all cells built", x.build(i % 8, i / 8, 1), 0);
        }
    }

    private static void day() {
        x = on(ROW);
        due("day(0)", x.day(0), OUTSIDE);
        due("day(100)", x.day(100), OUTSIDE);
        due("day(-1)", x.day(-1), OUTSIDE);
        // Seed 0: draws 0 of 100; 12345 -> shares; worked out by hand below.
        long seed = 0;
        int[] draws = {100, 3, 9, 9};
        int[] got = new int[4];
        for (int i = 0; i < 4; i++) {
            seed = (seed * 1103515245L + 12345L) % 2147483648L;
            got[i] = (int) (seed / 65536 % draws[i]);
        }
        int hour = got[1] < 2 ? 0 : 1;
        due("day(1)", x.day(1), 3);
        due("purse of 0", x.person(0, 4), hour == 0 ? -2 : -1);
        due("purse of 1", x.person(1, 4), hour == 0 ? -1 : -2);
        due("0 went", x.person(0, 0), got[2] / 3 == 1 ? 1 + got[2] % 3 - 1 : 1);
        due("1 went", x.person(1, 0), got[3] / 3 == 1 ? 3 + got[3] % 3 - 1 : 3);
        due("seed", x.seed(0), seed);
        due("the treasury", x.told(6), 3);
        Check.isTrue("99 days", x.day(99) >= 3);
        due("purses pay the treasury", x.told(6), -x.person(0, 4) - x.person(1, 4));
        x = on(ROW + "grey 100;");
        due("all days grey", x.day(99), 0);
        due("nobody pays", x.person(0, 4), 0);
        x = new ShadowTax();
        due("no cells", x.day(1), NOT);
        due("no cells, outside", x.day(0), OUTSIDE);
        due("no draw", x.seed(0), 0);
    }

    private static void daysWithoutHours() {
        // Without shares a day is one draw of 100, and one of each person.
        x = on("ground 9 5;sun 2 1 1 0;person 4 2 3;");
        due("nothing comes in", x.day(1), 0);
        long first = (0 * 1103515245L + 12345L) % 2147483648L;
        long second = (first * 1103515245L + 12345L) % 2147483648L;
        int d = (int) (second / 65536 % 9);
        due("x", x.person(0, 0), 4 + d % 3 - 1);
        due("y", x.person(0, 1), 2 + d / 3 - 1);
        due("seed", x.seed(0), second);
        x = on("ground 9 5;");
        due("nobody", x.day(2), 0);
        due("two draws", x.seed(0), second);
        x = on("ground 1 1;person 0 0 1;");
        x.day(50);
        due("nowhere to go", x.person(0, 0) + x.person(0, 1), 0);
        x = on("ground 3 3;house 0 0 1;house 1 0 1;house 2 0 1;house 0 1 1;house 2 1 1;house 0 2 1;house 1 2 1;house 2 2 1;person 1 1 1;");
        x.day(99);
        due("houses around", 10 * x.person(0, 0) + x.person(0, 1), 11);
    }

    /** Day by day, at each seed, the hour that the hat gives: each hour takes another sum in. */
    private static void hourOfTheHat() {
        String[] hats = {"0 1 1", "1 0 0", "2 1 3", "0 5 0", "20 20 20", "0 0 1"};
        for (String hat : hats) {
            String[] shares = hat.split(" ");
            for (int q = 0; q <= 100; q += 50) {
                x = on("ground 4 1;sun 2 1 1 " + shares[0] + ";sun 2 1 2 " + shares[1] + ";sun 2 1 3 " + shares[2]
                    + ";person 0 0 1;grey " + q + ";");
                for (int seed = 0; seed < 30; seed++) {
                    checkHour(seed * 71582788, q, Integer.parseInt(shares[0]), Integer.parseInt(shares[1]), Integer.parseInt(shares[2]));
                }
            }
        }
    }

    private static void checkHour(long seed, int q, int first, int second, int third) {
        x.seed((int) seed);
        x.go(0, 0, 0);
        int before = x.told(6);
        seed = (seed * 1103515245L + 12345L) % 2147483648L;
        int come = 0;
        if (seed / 65536 % 100 >= q) {
            seed = (seed * 1103515245L + 12345L) % 2147483648L;
            int d = (int) (seed / 65536 % (first + second + third));
            come = d < first ? 1 : d < first + second ? 2 : 3;
        }
        due("day(1), what came in", x.day(1) - before, come);
        seed = (seed * 1103515245L + 12345L) % 2147483648L;
        due("day(1), seed", x.seed(0), seed);
    }

    // ---- where to be

    private static void best() {
        // Hour 0 right, hour 1 down: MEAN is least where the one with more shares has no room.
        x = on("ground 4 3;sun 2 1 1 5;sun 1 2 1 1;person 1 1 3;");
        due("MEAN here", x.person(0, 5), 2 * 5 + 1);
        due("best MEAN", x.best(0, 0), 32);
        due("best WORST", x.best(0, 1), 32);
        due("it does not go", x.person(0, 0), 1);
        x.build(3, 2, 1);
        // Nothing falls right from 3 1, and the house is right below it.
        due("best MEAN now", x.best(0, 0), 31);
        due("best WORST now", x.best(0, 1), 31);
        x = on("ground 4 3;person 1 1 3;house 0 0 1;");
        due("of like ones the first", x.best(0, 0), 10);
        x = on("ground 4 1;sun 2 1 1 0;sun 0 1 1 1;person 3 0 9;");
        due("WORST without shares is none", x.best(0, 1), 0);
        due("what 2", x.best(0, 2), OUTSIDE);
        due("what -1", x.best(0, -1), OUTSIDE);
        due("person 1", x.best(1, 0), UNKNOWN);
        due("person -1", x.best(-1, 2), UNKNOWN);
        // Two hours: least MEAN and least WORST are not the same cell.
        x = on("ground 5 1;sun 2 1 1 3;sun 0 1 1 1;person 1 0 9;");
        due("least MEAN", x.best(0, 0), 40);
        due("least WORST", x.best(0, 1), 20);
    }

    private static void errand() {
        x = on(ROW + "house 5 0 1;");
        for (int i = 1; i <= 10; i++) {
            due("errand " + i, x.errand(i % 2, 5, 0, 1), i);
        }
        due("told(7)", x.told(7), 10);
        due("full", x.errand(0, 0, 0, 0), FULL);
        due("full, unknown person", x.errand(2, 0, 0, 0), UNKNOWN);
        due("person -1", x.errand(-1, 0, 0, 0), UNKNOWN);
        due("x 6", x.errand(0, 6, 0, 0), UNKNOWN);
        due("y 1", x.errand(0, 0, 1, 0), UNKNOWN);
        due("hour 2", x.errand(0, 0, 0, 2), UNKNOWN);
        due("hour -1", x.errand(0, 0, 0, -1), UNKNOWN);
    }

    private static void walk() {
        // Right at all hours, one cell a height; 9 high: it owes the cells to the right.
        x = on("ground 6 2;sun 2 1 1 1;sun 2 1 1 2;sun 2 1 1 3;person 2 1 9;");
        due("MEAN of the walk", x.walk(0, NONE), 3 + 2 * 2 + 1 * 3);
        due("hour 0", x.walk(0, 0), 21);
        due("hour 1", x.walk(0, 1), 30);
        due("hour 2", x.walk(0, 2), 40);
        due("it does not go", x.person(0, 0), 2);
        x.errand(0, 1, 1, 2);
        due("with an errand", x.walk(0, NONE), 3 + 3 * 2 + 4 * 3);
        due("hour 1", x.walk(0, 1), 20);
        due("hour 2", x.walk(0, 2), 11);
        x.errand(0, 1, 0, 1);
        due("with two", x.walk(0, NONE), 3 + 4 * 2 + 4 * 3);
        due("hour 1", x.walk(0, 1), 10);
        x.errand(0, 4, 0, 2);
        due("two places at once", x.walk(0, NONE), NONE);
        due("no hour either", x.walk(0, 0), NONE);
        x.tear();
        x.errand(0, 2, 1, 0);
        due("at hour 0 where it is", x.walk(0, NONE), 10);
        x.errand(0, 3, 1, 0);
        due("at hour 0 elsewhere", x.walk(0, NONE), NONE);
        x.tear();
        x.errand(0, 5, 1, 2);
        due("too far", x.walk(0, NONE), NONE);
        x.tear();
        x.errand(0, 4, 1, 2);
        x.build(4, 1, 1);
        due("a house there", x.walk(0, NONE), NONE);
        due("hour 3", x.walk(0, 3), UNKNOWN);
        due("hour -2", x.walk(0, -2), UNKNOWN);
        due("person 1", x.walk(1, NONE), UNKNOWN);
        due("person -1", x.walk(-1, 0), UNKNOWN);
        Check.feed(x, "ground 5 2;person 4 1 9;");
        x.ground();
        due("without hours", x.walk(0, NONE), 0);
        due("without hours, hour 0", x.walk(0, 0), UNKNOWN);
    }

    private static void walkOfLikeOnes() {
        x = on("ground 5 5;sun 2 1 1 0;sun 2 1 1 0;sun 2 1 1 0;person 3 3 5;person 0 0 1;");
        due("first cell 1", x.walk(0, 1), 22);
        due("first cell 2", x.walk(0, 2), 11);
        x.errand(1, 4, 4, 1);
        due("another's errand", x.walk(0, NONE), 0);
        x.build(2, 2, 3);
        due("not through a house", x.walk(0, 1), 32);
        due("and on", x.walk(0, 2), 21);
        // The first by the earlier hour, even where the later cell comes first.
        x = on("ground 3 1;sun 2 1 1 0;sun 2 1 1 0;person 1 0 1;house 0 0 1;");
        due("houses bar", x.walk(0, 1), 10);
        // The others' shadows count: in law 0 the lesser one owes what both cast.
        x = on("ground 6 1;sun 2 1 1 1;sun 2 1 1 1;person 0 0 5;person 1 0 4;");
        due("1 walks in 0's shadow", x.walk(1, NONE), 0);
        due("and stays by it", x.walk(1, 1), 0);
    }

    private static void couple() {
        x = on("ground 8 1;sun 2 1 1 2;person 1 0 3;person 4 0 2;person 6 0 1;");
        // 0: 2 3 4, 1: 5 6, 2: 7. As one, 3 high: from 1: 2 3 4, from 4: 5 6 7.
        due("couple(0, 1)", x.couple(0, 1), 10 - 6);
        due("couple(1, 0)", x.couple(1, 0), 4);
        // 3 high from 6: only 7.
        due("couple(0, 2)", x.couple(0, 2), 8 - 2);
        // As 1 is the taller one: from 6 it is 7.
        due("couple(2, 1)", x.couple(2, 1), 6 - 2);
        due("one twice", x.couple(1, 1), UNKNOWN);
        due("person 3", x.couple(0, 3), UNKNOWN);
        due("person -1", x.couple(-1, 0), UNKNOWN);
        due("they stay", x.owed(0, 0), 3);
        // Somebody in the dark owes nothing: as one they walk there.
        x = on("ground 9 1;house 5 0 1;sun 2 1 1 1;person 1 0 2;person 6 0 9;");
        due("in the dark", x.person(1, 5), 0);
        due("both in the dark", x.couple(0, 1), 2);
        // The greater height is that with hats as they are.
        x = on("ground 9 2;sun 2 1 1 1;person 0 0 3;person 0 1 4;");
        due("as one 4 high", x.couple(0, 1), 3 + 4 - 4);
        x.fold(1, true);
        due("as one 3 high", x.couple(0, 1), 3 + 3 - 3);
        x.fold(0, true);
        due("as one 3 high still", x.couple(0, 1), 2 + 3 - 3);
        x = on("ground 9 1;sun 2 1 1 1;person 3 0 1;person 3 0 5;person 2 0 5;");
        x.law(1);
        // 2: 3 .. 7; 1: 4 .. 8 of which it owes all (the least of like ones); as one with 0: the same.
        due("MEAN of 0", x.person(0, 5), 0);
        due("MEAN of 1", x.person(1, 5), 5);
        due("MEAN of 2", x.person(2, 5), 1);
        due("couple(0, 1)", x.couple(0, 1), 0);
        due("couple(0, 2): 0 as the lesser one, 5 high", x.couple(0, 2), 1 - 5);
    }

    private static void couples() {
        x = on("ground 8 1;sun 2 1 1 2;person 1 0 3;person 4 0 2;person 6 0 1;");
        due("sum", x.couples(NONE), 6);
        due("0", x.couples(0), 2);
        due("1", x.couples(1), NONE);
        due("2", x.couples(2), 0);
        due("person 3", x.couples(3), UNKNOWN);
        due("person -2", x.couples(-2), UNKNOWN);
        x = on("ground 8 1;person 1 0 3;person 4 0 2;");
        due("nothing gained", x.couples(NONE), 0);
        due("alone ahead of a couple", x.couples(0), NONE);
        // Four alike in four rows: each two gain the same; 0 with 1, 2 with 3.
        x = on("ground 4 4;sun 2 1 1 1;person 0 0 3;person 0 1 3;person 0 2 3;person 0 3 3;");
        due("two couples", x.couples(NONE), 6);
        due("0", x.couples(0), 1);
        due("1", x.couples(1), 0);
        due("2", x.couples(2), 3);
        due("3", x.couples(3), 2);
        // Of three alike one stays alone: 0, as it comes first.
        x = on("ground 4 3;sun 2 1 1 1;person 0 0 3;person 0 1 3;person 0 2 3;");
        due("one couple", x.couples(NONE), 3);
        due("0 alone", x.couples(0), NONE);
        due("1 with 2", x.couples(1), 2);
        due("2 with 1", x.couples(2), 1);
        x = on("ground 2 1;");
        due("nobody", x.couples(NONE), 0);
        due("nobody 0", x.couples(0), UNKNOWN);
    }

    private static void wall() {
        x = on("ground 6 1;sun 2 1 1 2;sun 0 1 2 1;person 1 0 2;person 3 0 1;house 5 0 1;");
        // House 5: dark at hour 1: 4, 3; so 1 owes 1 cell (4) at hour 0 only, 0: 2 cells, 1 cell.
        due("MEAN of all", x.told(10), 2 * 2 + 1 + 1 * 2);
        // A wall on 2, 1 high: hour 0 it stops 0, darkens 3, 1 has no shadow; hour 1 it darkens 0 1.
        due("wall(2, 0, 1)", x.wall(2, 0, 1), 7);
        // A wall on 4, 1 high: 1 has no cell at hour 0; hour 1 it darkens 3 and 2.
        due("wall(4, 0, 1)", x.wall(4, 0, 1), 2);
        due("wall(0, 0, 1)", x.wall(0, 0, 1), 5);
        due("nothing is built", x.cell(2, 0, 0, 0), 0);
        due("nothing is darker", x.told(10), 7);
        due("a house", x.wall(5, 0, 1), NOT);
        due("a person", x.wall(1, 0, 1), NOT);
        due("a house, outside", x.wall(5, 0, 0), OUTSIDE);
        due("t 10", x.wall(2, 0, 10), OUTSIDE);
        due("t 9", x.wall(2, 0, 9), 7);
        due("x 6", x.wall(6, 0, 0), UNKNOWN);
        due("y 1", x.wall(0, 1, 1), UNKNOWN);
        // A wall that stops a house's shadow lets somebody into the light: the treasury has more.
        x = on("ground 8 1;house 0 0 9;sun 2 1 1 1;person 5 0 2;");
        due("below 0", x.wall(1, 0, 1), -2);
    }

    private static void bestWall() {
        x = on("ground 6 1;sun 2 1 1 2;sun 0 1 2 1;person 1 0 2;person 3 0 1;house 5 0 1;");
        due("bestWall(1, 0, 0)", x.bestWall(1, 0, 0), 20);
        due("p is not looked at", x.bestWall(1, 1, 0), 20);
        // On 0 it darkens 1 at hour 0, and stops 0's shadow at hour 1.
        due("for 0", x.bestWall(1, 0, 1), 0);
        due("for 1", x.bestWall(1, 1, 1), 20);
        due("nothing is built", x.cell(2, 0, 0, 0), 0);
        due("person 2", x.bestWall(1, 2, 0), UNKNOWN);
        due("person -1", x.bestWall(0, -1, 2), UNKNOWN);
        due("t 0", x.bestWall(0, 0, 0), OUTSIDE);
        due("t 10", x.bestWall(10, 0, 0), OUTSIDE);
        due("t 9: from 0 it darkens both", x.bestWall(9, 0, 0), 0);
        due("what 2", x.bestWall(1, 0, 2), OUTSIDE);
        due("what -1", x.bestWall(1, 0, -1), OUTSIDE);
        x = on("ground 2 1;house 0 0 1;person 1 0 1;");
        due("no free cell", x.bestWall(1, 0, 0), NONE);
        due("no free cell, what 1", x.bestWall(1, 0, 1), NONE);
        x = on("ground 2 2;house 0 0 1;person 0 1 1;");
        due("of like ones the first", x.bestWall(1, 0, 0), 10);
    }

    private static void richest() {
        x = on("ground 6 1;sun 2 1 1 0;sun 0 1 2 9;person 1 0 2;person 3 0 1;");
        due("of like ones the first", x.richest(0), 0);
        due("how much", x.richest(1), 3);
        x.go(0, 2, 0);
        // Hour 0: 0 owes 3 and 4, 1 nothing; hour 1: 0 owes 1 and 0, 1 owes 2.
        due("hour 1", x.richest(0), 1);
        due("how much then", x.richest(1), 3);
        due("what 2", x.richest(2), OUTSIDE);
        due("what -1", x.richest(-1), OUTSIDE);
        x = on("ground 6 1;person 1 0 1;");
        due("without hours", x.richest(0), NONE);
        due("without hours, how much", x.richest(1), NONE);
        due("without hours, what 2", x.richest(2), OUTSIDE);
        x = on("ground 6 1;sun 2 1 1 1;");
        due("nobody", x.richest(0), 0);
        due("nobody, how much", x.richest(1), 0);
    }

    // ---- told taxes

    private static void tell() {
        x = on(ROW);
        due("sum -1", x.tell(0, -1), OUTSIDE);
        due("sum 100", x.tell(0, 100), OUTSIDE);
        due("hour 2", x.tell(2, 100), UNKNOWN);
        due("hour -1", x.tell(-1, 0), UNKNOWN);
        for (int i = 1; i <= 10; i++) {
            due("tell " + i, x.tell(i % 2, i == 1 ? 99 : 0), i);
        }
        due("full", x.tell(0, 0), FULL);
        due("full, outside", x.tell(0, 100), OUTSIDE);
        due("told(8)", x.told(8), 10);
    }

    private static void stood() {
        x = on(ROW + "house 5 0 1;");
        due("nothing told", x.stood(0, NONE), 5);
        due("nothing told, the last", x.stood(0, 4), 40);
        due("no more", x.stood(0, 5), NONE);
        x.tell(0, 2);
        // 0, 2 high, owes two cells at hour 0 from 0, 1, 2 (3 meets the house after one cell).
        due("told 2 at hour 0", x.stood(0, NONE), 3);
        due("the first", x.stood(0, 0), 0);
        due("the second", x.stood(0, 1), 10);
        due("the third", x.stood(0, 2), 20);
        due("not so many", x.stood(0, 3), NONE);
        due("below NONE", x.stood(0, -2), NONE);
        due("far below", x.stood(0, Integer.MIN_VALUE), NONE);
        x.tell(1, 1);
        // House 5 darkens 3, 4 at hour 1; from 2 it is two cells, from 1 one, from 0 none.
        due("and 1 at hour 1", x.stood(0, NONE), 1);
        due("there", x.stood(0, 0), 10);
        due("never so for 1", x.stood(1, NONE), 0);
        x.tell(1, 2);
        due("both at once never", x.stood(0, NONE), 0);
        due("it does not go", x.person(0, 0), 1);
        due("person 2", x.stood(2, NONE), UNKNOWN);
        due("person -1", x.stood(-1, -2), UNKNOWN);
        x = on("ground 3 2;person 0 0 1;");
        due("y by y", x.stood(0, 3), 1);
        due("x rising", x.stood(0, 2), 20);
    }

    private static void write() {
        x = on(ROW);
        due("hour 2", x.write(2, 0, 100), UNKNOWN);
        due("hour -1", x.write(-1, 0, 0), UNKNOWN);
        due("person 2", x.write(0, 2, 0), UNKNOWN);
        due("person -1", x.write(0, -1, 100), UNKNOWN);
        due("sum 100", x.write(0, 0, 100), OUTSIDE);
        due("sum -1", x.write(0, 0, -1), OUTSIDE);
        for (int i = 1; i <= 30; i++) {
            due("write " + i, x.write(0, 1, i == 1 ? 1 : 99), i);
        }
        due("full", x.write(0, 0, 0), FULL);
        due("full, outside", x.write(0, 0, 100), OUTSIDE);
        due("full, unknown", x.write(0, 9, 100), UNKNOWN);
        due("told(9)", x.told(9), 30);
        due("the second is wrong", x.judge(), 1);
    }

    private static void tear() {
        busy();
        due("tear()", x.tear(), 4);
        due("errands", x.told(7), 0);
        due("told", x.told(8), 0);
        due("book", x.told(9), 0);
        due("again", x.tear(), 0);
        due("one more", x.write(0, 0, 0), 1);
        due("again one", x.tear(), 1);
    }

    private static void judge() {
        x = on(ROW);
        due("empty", x.judge(), NONE);
        x.write(0, 0, 2);
        x.write(1, 0, 1);
        x.write(1, 1, 2);
        due("all right", x.judge(), NONE);
        x.write(0, 1, 2);
        x.write(0, 0, 3);
        due("the first that is wrong", x.judge(), 3);
        x.fold(0, true);
        due("as it is now", x.judge(), 0);
    }

    private static void seed() {
        x = new ShadowTax();
        due("seed(7)", x.seed(7), 0);
        due("seed(max)", x.seed(Integer.MAX_VALUE), 7);
        due("seed(-1)", x.seed(-1), OUTSIDE);
        due("seed(min)", x.seed(Integer.MIN_VALUE), OUTSIDE);
        due("seed(0)", x.seed(0), Integer.MAX_VALUE);
        Check.feed(x, "ground 1 1;");
        x.ground();
        x.seed(Integer.MAX_VALUE);
        x.day(1);
        due("a draw of the greatest", x.seed(0), (2147483647L * 1103515245L + 12345L) % 2147483648L);
    }

    private static void keepAndGoBack() {
        x = on(ROW);
        due("keep(2)", x.keep(2), UNKNOWN);
        due("keep(-1)", x.keep(-1), UNKNOWN);
        due("goBack(2)", x.goBack(2), UNKNOWN);
        due("goBack(-1)", x.goBack(-1), UNKNOWN);
        due("goBack(0)", x.goBack(0), NOT);
        due("keep(0)", x.keep(0), 1);
        due("goBack(1)", x.goBack(1), NOT);
        x.go(0, 4, 0);
        x.fold(1, true);
        x.law(1);
        x.seed(9);
        x.build(5, 0, 2);
        x.day(5);
        int[] then = shown();
        due("keep(1)", x.keep(1), 1);
        x.write(0, 0, 9);
        x.tell(0, 1);
        x.errand(0, 0, 0, 0);
        due("goBack(0)", x.goBack(0), 1);
        int[] first = {10, 30, 0, 0, 0, 0, 0, 0, 0, 0, 0, 9};
        same("image 0", first);
        due("the book stays", x.told(9), 1);
        due("what is told stays", x.told(8), 1);
        due("errands stay", x.told(7), 1);
        due("not dark any more", x.cell(4, 0, 1, 1), 0);
        due("goBack(1)", x.goBack(1), 1);
        same("image 1", then);
        due("dark again", x.cell(4, 0, 1, 1), 1);
        x.go(0, 0, 0);
        due("again", x.goBack(1), 1);
        same("image 1 again", then);
        due("0 into 1", x.goBack(0) + x.keep(1), 2);
        x.day(3);
        x.goBack(1);
        same("image 1 is what image 0 was", first);
    }

    private static int[] shown() {
        int drawn = x.seed(0);
        x.seed(drawn);
        return new int[] {
            10 * x.person(0, 0) + x.person(0, 1), 10 * x.person(1, 0) + x.person(1, 1), x.person(0, 3), x.person(1, 3),
            x.person(0, 4), x.person(1, 4), x.told(6), x.told(5), x.cell(5, 0, 0, 0), x.cell(4, 0, 0, 0), drawn, x.told(10)};
    }

    private static void same(String image, int[] want) {
        int[] got = shown();
        for (int i = 0; i < want.length; i++) {
            due(image + ", " + i, got[i], want[i]);
        }
    }
}
