/**
 * Boundary cases of promises 1 to 4 and of "1 THE GROUND": a test for each sentence that names one, with its words.
 * The sentences of "1 THE GROUND" are held by promise 3 (ground) and 4 (fault).
 */
public final class TextEdgesTest extends Edges {
    private static final String ALL = "ground 2 2;house 0 1 3;sun 2 1 1 5;person 1 1 2;grey 7;";

    public static void main(String[] args) {
        newObjectHasNoCells();
        feedTakesOneToEightBytes();
        feedTakesTheLowestBytes();
        feedIsFullAt500();
        textOf500BytesIsRead();
        groundTellsHowManyCells();
        textIsEmptyThen();
        groundBeginsAnew();
        nothingIsLeftOfAGreaterGround();
        faultLeavesAllElse();
        faultsAreTenLess();
        faultOfTheLatestGround();
        sidesFromOneToNine();
        cellsAreAtMost48();
        housesAreAtMost15();
        housesAreOneToNineHigh();
        cellsHaveOneHouse();
        hoursAreAtMostSix();
        waysFromZeroToTwo();
        lengthsFromZeroToThree();
        sharesFromZeroToTwenty();
        personsAreAtMostSix();
        personsAreOneToNineHigh();
        personsStandBesideHouses();
        cellsAreOnTheGround();
        greyIsOfAHundred();
        greyIsToldOnce();
        numbersHaveUpToThreeFigures();
        wordsAreLowLetters();
        blanksMayStandAnywhere();
        numbersSideBySideNeedABlank();
        firstByteThatHasAFault();
        leastOfTheFaultsAtAByte();
        endIsAtTheTextsLength();
        whatCannotStandThere();
        againIsAFault();
        emptyTextHasNoFault();
        Check.end("TextEdgesTest");
    }

    // ---- promise 1

    /** Promise 1: "No CELLS." (and "An empty text ...: no CELLS" for what is asked of such a ground.) */
    private static void newObjectHasNoCells() {
        ShadowTax x = new ShadowTax();
        for (int what = 0; what <= 11; what++) {
            due("1: new, told(" + what + ")", x.told(what), 0);
        }
        due("1: new, fault()", x.fault(), NONE);
        due("1: new, cell(0, 0, 0, 0)", x.cell(0, 0, 0, 0), UNKNOWN);
        due("1: new, person(0, 0)", x.person(0, 0), UNKNOWN);
        due("1: new, build(0, 0, 1)", x.build(0, 0, 1), UNKNOWN);
        due("1: new, wall(0, 0, 1)", x.wall(0, 0, 1), UNKNOWN);
        due("1: new, day(1)", x.day(1), NOT);
        due("1: new, couples(NONE)", x.couples(NONE), 0);
        due("1: new, richest(0)", x.richest(0), NONE);
        due("1: new, tear()", x.tear(), 0);
        due("1: new, judge()", x.judge(), NONE);
        due("1: new, goBack(0)", x.goBack(0), NOT);
        due("1: new, goBack(1)", x.goBack(1), NOT);
        due("1: new, law(0), 0 at first", x.law(0), 0);
        due("1: new, seed(0), 0 at first", x.seed(0), 0);
    }

    // ---- promise 2

    /** Promise 2: "The lowest n bytes (1 .. 8) of a long ...: how many it has. OUTSIDE": n 0, 1 .. 8, 9. */
    private static void feedTakesOneToEightBytes() {
        ShadowTax x = new ShadowTax();
        for (int n : new int[] {Integer.MIN_VALUE, -8, -1, 0, 9, 10, 64, 257, Integer.MAX_VALUE}) {
            due("2: feed(" + n + ", 0)", x.feed(n, 0), OUTSIDE);
            due("2: feed(" + n + ", 0), the text stays empty", x.told(4), 0);
        }
        int length = 0;
        for (int n = 1; n <= 8; n++) {
            length += n;
            due("2: feed(" + n + ", 0)", x.feed(n, 0), length);
            due("2: feed(" + n + ", 0), told(4)", x.told(4), length);
        }
    }

    /** Promise 2: "The lowest n bytes ..., the highest of these first, come behind THE TEXT": none from above them. */
    private static void feedTakesTheLowestBytes() {
        String text = "ground 3 2;grey 7;";
        for (int n = 1; n <= 8; n++) {
            ShadowTax x = new ShadowTax();
            for (int from = 0; from < text.length(); from += n) {
                String piece = text.substring(from, Math.min(from + n, text.length()));
                long above = piece.length() == 8 ? 0 : -1L << 8 * piece.length();
                x.feed(piece.length(), above | Check.packed(piece));
            }
            due("2: by " + n + " bytes, told(4)", x.told(4), text.length());
            due("2: by " + n + " bytes, ground()", x.ground(), 6);
            due("2: by " + n + " bytes, told(11)", x.told(11), 7);
        }
        ShadowTax x = new ShadowTax();
        due("2: the highest byte of eight, 255, is the first", x.feed(8, 0xff67726f756e6420L), 8);
        due("2: a byte of 255", x.ground(), -11);
        due("2: a byte of 255 at 0", x.fault(), 0);
        due("2: the lowest byte of eight, 128, is the last", x.feed(8, 0x67726f756e642080L), 8);
        due("2: a byte of 128", x.ground(), -11);
        due("2: a byte of 128 at 7", x.fault(), 7);
    }

    /** Promise 2: "FULL (500)", "(500 bytes at most)": 500 go in, of what would make 501 nothing. */
    private static void feedIsFullAt500() {
        for (int n = 1; n <= 8; n++) {
            ShadowTax x = new ShadowTax();
            fill(x, 501 - n);
            due("2: feed(" + n + ") to 501", x.feed(n, 0), FULL);
            due("2: feed(" + n + ") to 501, the text stays", x.told(4), 501 - n);
            if (n > 1) {
                due("2: feed(" + (n - 1) + ") to 500", x.feed(n - 1, 0x2020202020202020L), 500);
            }
            due("2: feed(1) to 501", x.feed(1, 0), FULL);
            due("2: feed(8) to 508", x.feed(8, 0), FULL);
            due("2: full, told(4)", x.told(4), 500);
            due("2: what was refused is not in it", x.ground(), 0);
            due("2: empty again, feed(8)", x.feed(8, 0), 8);
        }
    }

    /** Promise 2, 3: "(500 bytes at most)": the 500th byte is read, as the last one. */
    private static void textOf500BytesIsRead() {
        ShadowTax x = new ShadowTax();
        Check.feed(x, "ground 3 1");
        fill(x, 499);
        due("2: feed(1) of the 500th", x.feed(1, ';'), 500);
        due("3: ground() of 500 bytes", x.ground(), 3);
        Check.feed(x, "ground 2 1");
        fill(x, 500);
        due("3: ground() of 500 bytes without an end", x.ground(), -11);
        due("4: its fault is at the text's length", x.fault(), 500);
        Check.feed(x, "ground 2 1;");
        fill(x, 499);
        x.feed(1, 'x');
        due("3: ground() with a fault in the 500th byte", x.ground(), -11);
        due("4: its place", x.fault(), 499);
        x.feed(1, '7');
        Check.feed(x, repeated("7", 499));
        due("3: 500 figures", x.ground(), -11);
        due("4: 500 figures", x.fault(), 0);
        Check.feed(x, repeated("g", 500));
        due("3: 500 letters", x.ground(), -11);
        due("4: 500 letters", x.fault(), 0);
        Check.feed(x, "ground " + repeated("1", 493));
        due("3: a number of 493 figures", x.ground(), -12);
        due("4: a number of 493 figures", x.fault(), 7);
    }

    // ---- promise 3

    /** Promise 3: "THE TEXT ... becomes THE GROUND ...: how many CELLS": none, one, 48. */
    private static void groundTellsHowManyCells() {
        ShadowTax x = reads("", 0);
        Check.feed(x, "ground 1 1;");
        due("3: one cell", x.ground(), 1);
        Check.feed(x, "ground 8 6;");
        due("3: 48 cells", x.ground(), 48);
        due("3: an empty text again", x.ground(), 0);
        due("3: W of none", x.told(0), 0);
        due("3: H of none", x.told(1), 0);
    }

    /** Promise 3: "THE TEXT (it is empty then, with a FAULT, too)". */
    private static void textIsEmptyThen() {
        ShadowTax x = new ShadowTax();
        Check.feed(x, "ground 2 1;");
        due("3: ground()", x.ground(), 2);
        due("3: told(4) then", x.told(4), 0);
        Check.feed(x, "ground 2 1;hat");
        due("3: ground() with a fault", x.ground(), -11);
        due("3: told(4) with a fault", x.told(4), 0);
        due("3: feed begins at 0", x.feed(8, Check.packed("ground 3")), 8);
        due("3: and goes on", x.feed(3, Check.packed(" 1;")), 11);
        due("3: nothing of the text before is in it", x.ground(), 3);
        fill(x, 500);
        x.ground();
        due("3: a full text is empty then", x.told(4), 0);
    }

    /** A ground on which everything is told, walked, built and kept. */
    private static ShadowTax busy(String text) {
        ShadowTax x = on(text);
        x.law(1);
        x.seed(77);
        x.fold(0, true);
        x.day(9);
        x.build(0, 1, 2);
        for (int i = 0; i < 10; i++) {
            x.errand(0, 0, 0, 1);
            x.tell(0, 1);
        }
        for (int i = 0; i < 30; i++) {
            x.write(0, 0, 1);
        }
        x.keep(0);
        x.keep(1);
        return x;
    }

    private static final String BUSY = "ground 5 2;sun 2 1 1 2;sun 0 1 2 1;person 1 0 2;person 3 0 1;";

    /**
     * Promise 3: "(PURSES, THE TREASURY 0, nothing FOLDED; no ERRANDS, nothing told of STOOD, no BOOK; IMAGES are gone;
     * LAW, THE SEED stay)": by the same text, by another one, by an empty one.
     */
    private static void groundBeginsAnew() {
        for (String text : new String[] {BUSY, "ground 9 1;sun 2 1 1 1;person 8 0 1;person 0 0 9;person 7 0 2;", ""}) {
            ShadowTax x = busy(BUSY);
            int seed = seedOf(x);
            Check.isTrue("3: the treasury is not 0 before", x.told(6) > 0);
            Check.feed(x, text);
            x.ground();
            due("3: THE TREASURY", x.told(6), 0);
            due("3: ERRANDS", x.told(7), 0);
            due("3: told of STOOD", x.told(8), 0);
            due("3: THE BOOK", x.told(9), 0);
            for (int p = 0; p < x.told(3); p++) {
                due("3: FOLDED", x.person(p, 3), 0);
                due("3: PURSE", x.person(p, 4), 0);
            }
            due("3: IMAGE 0 is gone", x.goBack(0), NOT);
            due("3: IMAGE 1 is gone", x.goBack(1), NOT);
            due("3: LAW stays", x.told(5), 1);
            due("3: THE SEED stays", x.seed(0), seed);
            due("3: nothing to tear", x.tear(), 0);
        }
        ShadowTax x = busy(BUSY);
        Check.feed(x, BUSY);
        x.ground();
        due("3: a wall is gone", x.cell(0, 1, 0, 0), 0);
        due("3: PERSON 0 is where the text tells", placeOf(x, 0), 10);
        due("3: PERSON 1 is where the text tells", placeOf(x, 1), 30);
        due("3: ERRANDS from 1 on", x.errand(0, 0, 0, 1), 1);
        due("3: told of STOOD from 1 on", x.tell(0, 1), 1);
        due("3: THE BOOK from 1 on", x.write(0, 0, 1), 1);
    }

    /** Promise 3: "THE TEXT ... becomes THE GROUND": nothing is left of a greater one, in any answer, nor in later days. */
    private static void nothingIsLeftOfAGreaterGround() {
        String most = houses(15) + repeated("sun 2 1 3 20;", 5) + "sun 1 2 3 20;"
            + "person 0 2 9;person 1 2 9;person 0 3 8;person 7 5 9;person 3 3 7;person 0 4 9;grey 50;";
        String[] texts = {"ground 4 3;sun 2 1 1 3;sun 1 2 1 1;person 0 2 2;person 1 0 1;", "ground 9 1;sun 2 1 1 1;person 0 0 9;",
            "ground 3 3;person 0 2 1;person 1 0 1;person 2 2 1;", "ground 2 2;sun 0 1 1 1;", "ground 1 1;person 0 0 1;", ""};
        for (String text : texts) {
            ShadowTax x = on(most);
            for (int p = 0; p < 6; p++) {
                x.walk(p, NONE);
            }
            x.couples(NONE);
            x.bestWall(9, 5, 1);
            x.day(9);
            x.seed(5);
            Check.feed(x, text);
            x.ground();
            ShadowTax y = on(text);
            y.seed(5);
            same("3: '" + text + "' after a greater one", shown(x), shown(y));
            due("18: '" + text + "', couples", x.couples(NONE), y.couples(NONE));
            for (int i = 0; i < 5; i++) {
                due("13: '" + text + "', day " + i, x.day(1), y.day(1));
                due("13: '" + text + "', THE SEED on day " + i, seedOf(x), seedOf(y));
            }
        }
    }

    /** Promise 3: "(all else is as it was)" with a FAULT, of each number. */
    private static void faultLeavesAllElse() {
        String[] texts = {"ground 4 4;hat", "ground 4 4;person 9 0 1;", "ground 4 4;ground", "ground 4 4;person 0 0 1;house 0 0 1;"};
        ShadowTax x = busy(BUSY + "grey 30;");
        int[] before = shown(x);
        for (int i = 0; i < texts.length; i++) {
            Check.feed(x, texts[i]);
            due("3: ground() with fault " + (i + 1), x.ground(), -11 - i);
        }
        same("3: after four faults", shown(x), before);
        due("3: images stay, too", x.goBack(1), 1);
        same("3: image 1 is as it was", shown(x), before);
        due("3: image 0", x.goBack(0), 1);
    }

    /** Promise 3: "-10 less the number of its FAULT". */
    private static void faultsAreTenLess() {
        faulty("groun", 1, 0);
        faulty("ground 0 1;", 2, 7);
        faulty("ground 1 1;ground 1 1;", 3, 11);
        faulty("ground 1 1;sun 1 1 0 0;", 4, 17);
    }

    // ---- promise 4

    /** Promise 4: "The place (from 0 on) of the byte that has the FAULT of the latest ground(); NONE." */
    private static void faultOfTheLatestGround() {
        ShadowTax x = new ShadowTax();
        due("4: without a ground()", x.fault(), NONE);
        Check.feed(x, "x");
        due("4: a text alone has no fault", x.fault(), NONE);
        x.ground();
        due("4: from 0 on", x.fault(), 0);
        due("4: asked again", x.fault(), 0);
        Check.feed(x, "ground 1 1;x");
        due("4: of the ground() before", x.fault(), 0);
        x.ground();
        due("4: of the latest", x.fault(), 11);
        x.ground();
        due("4: NONE of an empty one", x.fault(), NONE);
        Check.feed(x, "ground 1 1;");
        x.ground();
        due("4: NONE", x.fault(), NONE);
    }

    // ---- 1 THE GROUND (promises 3 and 4)

    /** Promise 3: "W, H 1 .. 9". */
    private static void sidesFromOneToNine() {
        due("3: W 1", reads("ground 1 5;", 5).told(0), 1);
        due("3: H 1", reads("ground 5 1;", 5).told(1), 1);
        due("3: W 9", reads("ground 9 1;", 9).told(0), 9);
        due("3: H 9", reads("ground 1 9;", 9).told(1), 9);
        faulty("ground 0 5;", 2, 7);
        faulty("ground 5 0;", 2, 9);
        faulty("ground 10 1;", 2, 7);
        faulty("ground 1 10;", 2, 9);
        faulty("ground 999 1;", 2, 7);
        faulty("ground 1 256;", 2, 9);
    }

    /** Promise 3: "48 CELLS at most"; promise 4: "more than 48 CELLS (at the H)". */
    private static void cellsAreAtMost48() {
        reads("ground 8 6;", 48);
        reads("ground 6 8;", 48);
        reads("ground 9 5;", 45);
        reads("ground 5 9;", 45);
        faulty("ground 7 7;", 2, 9);
        faulty("ground 9 6;", 2, 9);
        faulty("ground 6 9;", 2, 9);
        faulty("ground 9 9;", 2, 9);
        faulty("  ground  7    007  ;", 2, 15);
        faulty("ground 7 7", 2, 9);
        ShadowTax x = on("ground 8 6;sun 2 1 1 1;");
        due("3: the last cell", x.build(7, 5, 1), 0);
        due("3: no X 8", x.build(8, 5, 1), UNKNOWN);
        due("3: no Y 6", x.build(7, 6, 1), UNKNOWN);
    }

    /** Promise 3: "'house' ... (15 at most"; promise 4: "a 16th 'house' ... (at its first letter)". */
    private static void housesAreAtMost15() {
        ShadowTax x = reads(houses(15) + "sun 2 1 0 0;", 48);
        due("3: the 15th house", x.cell(6, 1, 0, 0), 1);
        due("3: no 16th", x.cell(7, 1, 0, 0), 0);
        faulty(houses(16), 3, 191);
        faulty(houses(15) + "  house", 3, 193);
        faulty(houses(15) + "house 0 0 0;", 3, 191);
        faulty(houses(15) + "hous", 1, 191);
    }

    /** Promise 3: "T high, 1 .. 9" of a house. */
    private static void housesAreOneToNineHigh() {
        due("3: a house 1 high", reads("ground 2 1;house 1 0 1;sun 0 0 0 0;", 2).cell(1, 0, 0, 0), 1);
        due("3: a house 9 high", reads("ground 2 1;house 1 0 9;sun 0 0 0 0;", 2).cell(1, 0, 0, 0), 9);
        faulty("ground 2 1;house 1 0 0;", 2, 21);
        faulty("ground 2 1;house 1 0 10;", 2, 21);
        faulty("ground 2 1;house 1 0 257;", 2, 21);
    }

    /** Promise 3: "each CELL once"; promise 4: "4 a CELL with a house already, for a house ... (at its Y)". */
    private static void cellsHaveOneHouse() {
        reads("ground 2 2;house 0 0 1;house 1 0 1;house 0 1 1;house 1 1 1;", 4);
        faulty("ground 2 2;house 0 0 1;house 0 0 1;", 4, 31);
        faulty("ground 2 2;house 1 1 1;house  001  01  9;", 4, 35);
        faulty("ground 2 2;house 1 0 1;house 0 1 1;house 1 0 0;", 4, 43);
        faulty("ground 2 2;house 1 1 9;house 1 1", 4, 31);
    }

    /** Promise 3: "(6 HOURS at most, one behind the other"; promise 4: "a seventh 'sun', ... (at its first letter)". */
    private static void hoursAreAtMostSix() {
        due("3: no hours", reads("ground 2 1;", 2).told(2), 0);
        due("3: one hour", reads("ground 2 1;sun 0 0 0 0;", 2).told(2), 1);
        due("3: six hours", reads("ground 2 1;" + repeated("sun 0 1 1 1;", 6), 2).told(2), 6);
        faulty("ground 2 1;" + repeated("sun 0 1 1 1;", 7), 3, 83);
        faulty("ground 2 1;" + repeated("sun 0 1 1 1;", 6) + " sun 1 1", 3, 84);
        // One behind the other: each hour is what its own statement tells.
        ShadowTax x = on("ground 9 1;sun 2 1 1 1;sun 2 1 2 1;house 8 0 1;sun 2 1 3 1;grey 0;sun 2 1 0 1;person 0 0 1;sun 0 1 1 1;sun 2 1 1 1;");
        int[] owed = {1, 2, 3, 0, 0, 1};
        for (int hour = 0; hour < 6; hour++) {
            due("3: hour " + hour, x.owed(0, hour), owed[hour]);
        }
    }

    /** Promise 3: "DX less 1 along X and DY less 1 along Y, 0 .. 2 both, not 1 1"; promise 4: "DX DY 1 1 (at the DY)". */
    private static void waysFromZeroToTwo() {
        for (int d = 0; d < 9; d++) {
            String text = "ground 3 3;sun " + d % 3 + " " + d / 3 + " 1 1;person 1 1 1;";
            if (d == 4) {
                faulty(text, 4, 17);
            } else {
                due("3: the shadow by way " + d, reads(text, 9).cell(d % 3, d / 3, 0, 2), 1);
            }
        }
        faulty("ground 3 3;sun 3 0 1 1;", 2, 15);
        faulty("ground 3 3;sun 0 3 1 1;", 2, 17);
        faulty("ground 3 3;sun 1 3 1 1;", 2, 17);
        faulty("ground 3 3;sun 999 1 1 1;", 2, 15);
        faulty("ground 3 3;sun 01  001 1 1;", 4, 19);
        faulty("ground 3 3;sun 1 1", 4, 17);
        faulty("ground 3 3;sun 1 1 4 21;", 4, 17);
        faulty("ground 3 3;sun 1 10 1 1;", 2, 17);
    }

    /** Promise 3: "L CELLS for each 1 of height, 0 .. 3". */
    private static void lengthsFromZeroToThree() {
        due("3: L 0", reads("ground 9 1;sun 2 1 0 1;person 0 0 2;", 9).owed(0, 0), 0);
        due("3: L 3", reads("ground 9 1;sun 2 1 3 1;person 0 0 2;", 9).owed(0, 0), 6);
        faulty("ground 9 1;sun 2 1 4 1;", 2, 19);
        faulty("ground 9 1;sun 2 1 10 1;", 2, 19);
    }

    /** Promise 3: "S shares of the hat, 0 .. 20". */
    private static void sharesFromZeroToTwenty() {
        due("3: S 0", reads("ground 2 1;sun 2 1 1 0;person 0 0 1;", 2).person(0, 5), 0);
        due("3: S 20", reads("ground 2 1;sun 2 1 1 20;person 0 0 1;", 2).person(0, 5), 20);
        faulty("ground 2 1;sun 2 1 1 21;", 2, 21);
        faulty("ground 2 1;sun 2 1 1 100;", 2, 21);
    }

    /** Promise 3: "(6 PERSONS at most"; promise 4: "a seventh ... 'person' (at its first letter)". */
    private static void personsAreAtMostSix() {
        due("3: nobody", reads("ground 2 1;", 2).told(3), 0);
        due("3: six persons, on one cell, too", reads("ground 2 1;" + repeated("person 1 0 1;", 6), 2).told(3), 6);
        faulty("ground 2 1;" + repeated("person 1 0 1;", 7), 3, 89);
        faulty("ground 2 1;" + repeated("person 1 0 1;", 6) + " person 5 5 0;", 3, 90);
    }

    /** Promise 3: "T high, 1 .. 9" of a person. */
    private static void personsAreOneToNineHigh() {
        due("3: a person 1 high", reads("ground 2 1;person 1 0 1;", 2).person(0, 2), 1);
        due("3: a person 9 high", reads("ground 2 1;person 1 0 9;", 2).person(0, 2), 9);
        faulty("ground 2 1;person 1 0 0;", 2, 22);
        faulty("ground 2 1;person 1 0 10;", 2, 22);
    }

    /**
     * Promise 3: "on a CELL without a house told ahead"; promise 4: "4 a CELL with a house already, for ... a PERSON (at
     * its Y)", "a house where a PERSON is (at its Y)".
     */
    private static void personsStandBesideHouses() {
        faulty("ground 2 2;house 1 0 1;person 1 0 1;", 4, 32);
        faulty("ground 2 2;person 1 0 1;house 1 0 1;", 4, 32);
        faulty("ground 2 2;person 1 0 1;person 0 1 1;house 0 1 1;", 4, 45);
        faulty("ground 2 2;person 1 0 1;house 1   00", 4, 34);
        faulty("ground 2 2;house 1 0 1;person 1 0 0;", 4, 32);
        reads("ground 2 2;house 1 0 1;person 0 0 1;person 0 0 1;person 1 1 1;house 0 1 1;", 4);
    }

    /** Promise 3: "CELLS X 0 .. W less 1, Y 0 .. H less 1", for houses and persons. */
    private static void cellsAreOnTheGround() {
        reads("ground 3 2;house 2 1 1;house 0 0 1;", 6);
        reads("ground 3 2;person 2 1 1;person 0 0 1;", 6);
        faulty("ground 3 2;house 3 1 1;", 2, 17);
        faulty("ground 3 2;house 2 2 1;", 2, 19);
        faulty("ground 3 2;person 3 1 1;", 2, 18);
        faulty("ground 3 2;person 2 2 1;", 2, 20);
        faulty("ground 3 2;house 999 1 1;", 2, 17);
        faulty("ground 3 2;person 0 999 1;", 2, 20);
        faulty("ground 1 1;house 1 0 1;", 2, 17);
        faulty("ground 1 1;person 0 1 1;", 2, 20);
    }

    /** Promise 3: "Q of a hundred days are grey, 0 .. 100; 0 untold". */
    private static void greyIsOfAHundred() {
        due("3: Q 0", reads("ground 1 1;grey 0;", 1).told(11), 0);
        due("3: Q 100", reads("ground 1 1;grey 100;", 1).told(11), 100);
        ShadowTax x = reads("ground 1 1;grey 9;", 1);
        due("3: Q 9", x.told(11), 9);
        Check.feed(x, "ground 1 1;");
        x.ground();
        due("3: Q untold", x.told(11), 0);
        faulty("ground 1 1;grey 101;", 2, 16);
        faulty("ground 1 1;grey 999;", 2, 16);
    }

    /** Promise 3: "once"; promise 4: "3 ... 'grey' again, ... (at its first letter)". */
    private static void greyIsToldOnce() {
        faulty("ground 1 1;grey 5;grey 5;", 3, 18);
        faulty("ground 1 1;grey 0;  grey", 3, 20);
        faulty("ground 1 1;grey 0;sun 2 1 1 1;grey 101;", 3, 30);
        // Once in each text.
        ShadowTax x = reads("ground 1 1;grey 5;", 1);
        Check.feed(x, "ground 1 1;grey 6;");
        due("3: grey of another text", x.ground(), 1);
        Check.feed(x, "ground 1 1;grey 7;x");
        due("3: a fault behind grey", x.ground(), -11);
        Check.feed(x, "ground 1 1;grey 8;");
        due("3: grey behind that fault", x.ground(), 1);
        due("3: its Q", x.told(11), 8);
    }

    /** Promise 4: "NUMBERS have one to three figures", "2 a NUMBER of four figures or more, or out of its bounds". */
    private static void numbersHaveUpToThreeFigures() {
        due("3: one figure", reads("ground 1 1;grey 7;", 1).told(11), 7);
        due("3: two figures", reads("ground 1 1;grey 07;", 1).told(11), 7);
        due("3: three figures", reads("ground 1 1;grey 007;", 1).told(11), 7);
        due("3: three figures of 0", reads("ground 1 1;grey 000;", 1).told(11), 0);
        faulty("ground 1 1;grey 0007;", 2, 16);
        faulty("ground 1 1;grey 0000;", 2, 16);
        faulty("ground 1 1;grey 1000;", 2, 16);
        faulty("ground 0001 1;", 2, 7);
        faulty("ground 1 0001;", 2, 9);
        faulty("ground 2 2;house 0001 0 1;", 2, 17);
        faulty("ground 2 2;person 0 0 0001;", 2, 22);
        faulty("ground 1 4294967297;", 2, 9);
        faulty("ground 18446744073709551617 1;", 2, 7);
    }

    /** Promise 4: "words are letters a .. z side by side": neither ` nor { nor A .. Z. */
    private static void wordsAreLowLetters() {
        faulty("Ground 1 1;", 1, 0);
        faulty("groUnd 1 1;", 1, 0);
        faulty("GROUND 1 1;", 1, 0);
        // A letter makes another word of it, another sign stands behind the word.
        faulty("ground 1 1;greya1;", 1, 11);
        faulty("ground 1 1;greyz1;", 1, 11);
        faulty("ground 1 1;grey`1;", 1, 15);
        faulty("ground 1 1;grey{1;", 1, 15);
        faulty("ground 1 1;greyA1;", 1, 15);
        faulty("ground 1 1;greyZ1;", 1, 15);
        // Nor are / and : figures.
        faulty("ground 1 1;grey 1/;", 1, 17);
        faulty("ground 1 1;grey 1:;", 1, 17);
        faulty("ground 1 1;grey /;", 1, 16);
        faulty("ground 1 1;grey :;", 1, 16);
        reads("ground 9 1;grey 90;", 9);
    }

    /** Promise 4: "blanks (32) may stand anywhere but within words and NUMBERS". */
    private static void blanksMayStandAnywhere() {
        reads("ground1 1;grey5;sun2 1 1 1;house0 0 1;", 1);
        due("3: with many blanks", reads("   ground   1   1   ;   grey   5   ;   ", 1).told(11), 5);
        faulty("gro und 1 1;", 1, 0);
        faulty("ground 1 1;gre y 5;", 1, 11);
        faulty("ground 1 1;grey 1 0;", 1, 18);
        faulty("ground 1 1;grey 10 0;", 1, 19);
        for (char other : new char[] {0, 9, 10, 13, 31, 33, 127, 160, 255}) {
            faulty(other + "ground 1 1;", 1, 0);
            faulty("ground" + other + "1 1;", 1, 6);
            faulty("ground 1" + other + "1;", 1, 8);
            faulty("ground 1 1" + other + ";", 1, 10);
            faulty("ground 1 1;" + other, 1, 11);
        }
    }

    /** Promise 4: "two words, two NUMBERS side by side need one" (a blank): without, they are one. */
    private static void numbersSideBySideNeedABlank() {
        faulty("ground 11;", 2, 7);
        faulty("ground 1;", 1, 8);
        faulty("ground 2 2;house 11 1;", 2, 17);
        faulty("ground 9 5;sun 2111;", 2, 15);
        faulty("ground 9 5;sun 2 1 11;", 2, 19);
        faulty("ground 1 1;greysun 2 1 1 1;", 1, 11);
        faulty("ground 1 1;grey sun 2 1 1 1;", 1, 16);
    }

    /** Promise 4: "FAULTS, at the first byte that has one". */
    private static void firstByteThatHasAFault() {
        faulty("ground 0 0;", 2, 7);
        faulty("ground 1 0", 2, 9);
        faulty("ground 1 1;grey 101", 2, 16);
        faulty("ground 1 1;sun 1 1 9 99;hat", 4, 17);
        faulty("ground 1 1;sun 3 1 1 1;ground", 2, 15);
        faulty("ground 1 1;hat;ground 1 1;", 1, 11);
        faulty("ground 2 1;house 0 0 1;house 2 0 1;", 2, 29);
        faulty("ground 2 1;house 0 0 1;house 0 0 0", 4, 31);
        faulty("house 9 9 9 9", 1, 0);
    }

    /** Promise 4: "of these the least", where one byte has two FAULTS. */
    private static void leastOfTheFaultsAtAByte() {
        // 1 and 2: a number of four figures where none can stand.
        faulty("1000", 1, 0);
        faulty("ground 1 1 1000;", 1, 11);
        faulty("ground 1 1;1000", 1, 11);
        faulty("ground 1 1;grey 5 1000;", 1, 18);
        // 1 and 3: 'ground', 'grey' again where a number is to stand.
        faulty("ground ground 1 1;", 1, 7);
        faulty("ground 1 1;house ground", 1, 17);
        faulty("ground 1 1;grey 5;sun grey 5;", 1, 22);
        // 2 and 4: the DY, the Y has four figures, too.
        faulty("ground 1 1;sun 1 0001 1 1;", 2, 17);
        faulty("ground 1 1;house 0 0 1;house 0 0000 1;", 2, 31);
        faulty("ground 1 1;person 0 0 1;house 0 0000 1;", 2, 32);
    }

    /** Promise 4: "(the end at the text's length)": every beginning of a text that is cut off. */
    private static void endIsAtTheTextsLength() {
        for (int end = 0; end <= ALL.length(); end++) {
            String text = ALL.substring(0, end);
            String rest = text.substring(text.lastIndexOf(';') + 1);
            if (rest.isEmpty()) {
                reads(text, end == 0 ? 0 : 4);
            } else if (rest.matches("[a-z]+") && !rest.matches("ground|house|sun|person|grey")) {
                faulty(text, 1, end - rest.length());
            } else {
                faulty(text, 1, end);
                faulty(text + "  ", 1, end + 2);
            }
        }
    }

    /** Promise 4: "1 it cannot stand there (a word that cannot, another one first than 'ground': at its first letter)". */
    private static void whatCannotStandThere() {
        faulty("house 0 0 1;", 1, 0);
        faulty("sun 2 1 1 1;", 1, 0);
        faulty("  person 0 0 1;", 1, 2);
        faulty("grey 5;", 1, 0);
        faulty("hat;", 1, 0);
        faulty(";", 1, 0);
        faulty("groun 1 1;", 1, 0);
        faulty("grounds 1 1;", 1, 0);
        faulty("ground 1 1; hat", 1, 12);
        faulty("ground 1 1;;", 1, 11);
        faulty("ground 1 1;5;", 1, 11);
        faulty("ground;", 1, 6);
        faulty("ground 1 x;", 1, 9);
        faulty("ground 1 1 x;", 1, 11);
        faulty("ground 1 1;grey;", 1, 15);
        faulty("ground 1 1;grey -1;", 1, 16);
        faulty("ground 1 1;grey 1,", 1, 17);
        faulty("ground 1 1;hous 0 0 1;", 1, 11);
        faulty("ground 1 1;houses 0 0 1;", 1, 11);
        faulty("ground 1 1;su 2 1 1 1;", 1, 11);
        faulty("ground 1 1;persons 0 0 1;", 1, 11);
        faulty("ground 1 1;persom 0 0 1;", 1, 11);
    }

    /** Promise 4: "3 'ground', 'grey' again, a 16th 'house', a seventh 'sun', 'person' (at its first letter)": counted anew. */
    private static void againIsAFault() {
        faulty("ground 1 1;ground 1 1;", 3, 11);
        faulty("ground 1 1;   ground", 3, 14);
        faulty("ground 1 1;grey 5;ground 1 1;", 3, 18);
        ShadowTax x = new ShadowTax();
        String most = houses(15) + "grey 5;" + repeated("sun 2 1 1 1;", 6) + repeated("person 7 5 1;", 6);
        for (int i = 0; i < 2; i++) {
            Check.feed(x, most);
            due("3: all at their most, " + i, x.ground(), 48);
            Check.feed(x, most + "x");
            due("3: all at their most and a fault, " + i, x.ground(), -11);
            due("4: there", x.fault(), most.length());
        }
    }

    /** Promise 4: "An empty text (or one of blanks alone) has no FAULT: no CELLS." */
    private static void emptyTextHasNoFault() {
        reads("", 0);
        reads(" ", 0);
        ShadowTax x = reads(repeated(" ", 500), 0);
        Check.feed(x, ALL);
        x.ground();
        Check.feed(x, "   ");
        due("3: blanks alone", x.ground(), 0);
        due("4: blanks alone", x.fault(), NONE);
        int[] none = {0, 0, 0, 0};
        for (int what = 0; what < 4; what++) {
            due("3: told(" + what + ") of no cells", x.told(what), none[what]);
        }
        due("3: Q of no cells", x.told(11), 0);
        due("3: no person", x.person(0, 0), UNKNOWN);
        due("3: no cell", x.cell(0, 0, 0, 0), UNKNOWN);
        due("13: no day", x.day(1), NOT);
    }
}
