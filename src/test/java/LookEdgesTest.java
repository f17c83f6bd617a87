/**
 * Boundary cases of promises 5 to 8 and of what "2 A SHADOW" says of shadows: a test for each sentence that names one,
 * with its words. The sentences of "2 A SHADOW" are held by promises 6 (cell), 7 (person) and 8 (owed).
 */
public final class LookEdgesTest extends Edges {
    public static void main(String[] args) {
        toldOutside();
        toldAtItsMost();
        cellUnknown();
        cellOutside();
        cellAtTheCorners();
        heightOfNoHouse();
        darkOrNot();
        setOfPersons();
        owedByNobody();
        personUnknown();
        personOutside();
        heightWithAFoldedHat();
        owedUnknown();
        shadowsAreSoLong();
        shadowsEndAtTheGroundsEnd();
        shadowsDoNotGoRound();
        shadowsEndAheadOfHouses();
        ownCellIsNoPartOfAShadow();
        foldedIsOneLess();
        darkCells();
        personsInTheDark();
        personsInTheDarkLeaveCellsToOthers();
        darkCellsAreNotOwed();
        houseCellsAreNotOwed();
        leastOfThoseWhoseShadowItIs();
        tallestOfThoseWhoseShadowItIs();
        firstAndLastCellInTwoShadows();
        meanIsNotPartedByShares();
        meanOfNothing();
        worstIsOfHoursWithShares();
        Check.end("LookEdgesTest");
    }

    // ---- promise 5

    /** Promise 5: "0 W, ... 11 Q. OUTSIDE." */
    private static void toldOutside() {
        ShadowTax x = on("ground 3 2;grey 8;");
        for (int what : beyond(12)) {
            due("5: told(" + what + ")", x.told(what), OUTSIDE);
        }
        due("5: told(0)", x.told(0), 3);
        due("5: told(11)", x.told(11), 8);
        due("5: new, told(12)", new ShadowTax().told(12), OUTSIDE);
        due("5: new, told(-1)", new ShadowTax().told(-1), OUTSIDE);
    }

    /** Promise 5: all that is told, with each number at its limit. */
    private static void toldAtItsMost() {
        ShadowTax x = on("ground 9 1;" + repeated("sun 2 1 3 20;", 6) + "person 0 0 9;" + repeated("person 8 0 9;", 5) + "grey 100;");
        for (int i = 0; i < 10; i++) {
            x.errand(0, 8, 0, 5);
            x.tell(5, 99);
        }
        for (int i = 0; i < 30; i++) {
            x.write(5, 5, 99);
        }
        x.law(1);
        fill(x, 500);
        int[] all = {9, 1, 6, 6, 500, 1, 0, 10, 10, 30, 8 * 20 * 6, 100};
        for (int what = 0; what <= 11; what++) {
            due("5: at its most, told(" + what + ")", x.told(what), all[what]);
        }
    }

    // ---- promise 6

    /** Promise 6: "Of a CELL at an HOUR ... UNKNOWN": beyond each side, before the first hour and after the last. */
    private static void cellUnknown() {
        ShadowTax x = on("ground 4 3;sun 2 1 1 1;sun 1 2 1 1;person 0 0 1;");
        for (int what = 0; what <= 3; what++) {
            for (int i : beyond(4)) {
                due("6: cell(" + i + ", 1, 0, " + what + ")", x.cell(i, 1, 0, what), UNKNOWN);
            }
            for (int i : beyond(3)) {
                due("6: cell(1, " + i + ", 0, " + what + ")", x.cell(1, i, 0, what), UNKNOWN);
            }
            for (int i : beyond(2)) {
                due("6: cell(1, 1, " + i + ", " + what + ")", x.cell(1, 1, i, what), UNKNOWN);
            }
        }
        due("6: cell without hours", on("ground 4 3;").cell(1, 1, 0, 0), UNKNOWN);
    }

    /** Promise 6: "what = 0 ..., 1 ..., 2 ..., 3 .... UNKNOWN, OUTSIDE." */
    private static void cellOutside() {
        ShadowTax x = on("ground 4 3;sun 2 1 1 1;");
        for (int what : beyond(4)) {
            due("6: cell(3, 2, 0, " + what + ")", x.cell(3, 2, 0, what), OUTSIDE);
            due("6: cell(4, 2, 0, " + what + ")", x.cell(4, 2, 0, what), UNKNOWN);
            due("6: cell(3, 2, 1, " + what + ")", x.cell(3, 2, 1, what), UNKNOWN);
        }
    }

    /** Promise 6: the cells at the ground's corners, at the first hour and at the last. */
    private static void cellAtTheCorners() {
        ShadowTax x = on("ground 4 3;house 0 0 1;house 3 0 2;house 0 2 3;house 3 2 9;" + repeated("sun 2 1 1 1;", 6));
        for (int hour = 0; hour < 6; hour += 5) {
            due("6: up left", x.cell(0, 0, hour, 0), 1);
            due("6: up right", x.cell(3, 0, hour, 0), 2);
            due("6: down left", x.cell(0, 2, hour, 0), 3);
            due("6: down right", x.cell(3, 2, hour, 0), 9);
        }
    }

    /** Promise 6: "what = 0 how high a house is there (0: none)". */
    private static void heightOfNoHouse() {
        ShadowTax x = on("ground 3 1;house 0 0 9;sun 2 1 1 1;person 1 0 5;");
        due("6: a house", x.cell(0, 0, 0, 0), 9);
        due("6: a person is no house", x.cell(1, 0, 0, 0), 0);
        due("6: none", x.cell(2, 0, 0, 0), 0);
        x.build(0, 0, 0);
        due("6: none any more", x.cell(0, 0, 0, 0), 0);
    }

    /** Promise 6: "1 whether it is DARK": next to a shadow's first and last cell, and at another hour. */
    private static void darkOrNot() {
        ShadowTax x = on("ground 6 1;house 1 0 2;sun 2 1 1 1;sun 0 1 1 1;");
        int[][] dark = {{0, 0, 1, 1, 0, 0}, {1, 0, 0, 0, 0, 0}};
        for (int hour = 0; hour < 2; hour++) {
            for (int c = 0; c < 6; c++) {
                due("6: cell(" + c + ", 0, " + hour + ", 1)", x.cell(c, 0, hour, 1), dark[hour][c]);
            }
        }
    }

    /** Promise 6: "2 who has a SHADOW there (a SET of PERSONS)": nobody, person 0 alone, person 5 alone, all six. */
    private static void setOfPersons() {
        ShadowTax x = on("ground 8 1;sun 2 1 3 1;person 1 0 9;person 2 0 9;person 3 0 9;person 4 0 9;person 5 0 9;person 6 0 9;");
        due("6: nobody", x.cell(0, 0, 0, 2), 0);
        due("6: nobody, on 0's own cell", x.cell(1, 0, 0, 2), 0);
        due("6: 0 alone", x.cell(2, 0, 0, 2), 1);
        due("6: 0 and 1", x.cell(3, 0, 0, 2), 3);
        due("6: all but 5", x.cell(6, 0, 0, 2), 31);
        due("6: all six", x.cell(7, 0, 0, 2), 63);
        for (int p = 0; p < 5; p++) {
            x.go(p, 7, 0);
        }
        due("6: 5 alone", x.cell(7, 0, 0, 2), 32);
    }

    /** Promise 6: "3 who OWES it (NONE)": without a shadow, in the dark, on a house; else 0 or 5. */
    private static void owedByNobody() {
        ShadowTax x = on("ground 9 1;house 4 0 1;sun 2 1 1 1;" + repeated("person 8 0 1;", 4) + "person 0 0 1;person 3 0 9;");
        due("6: no shadow", x.cell(0, 0, 0, 3), NONE);
        due("6: 4's", x.cell(1, 0, 0, 3), 4);
        due("6: no shadow so far", x.cell(2, 0, 0, 3), NONE);
        due("6: a house", x.cell(4, 0, 0, 3), NONE);
        due("6: dark", x.cell(5, 0, 0, 3), NONE);
        due("6: behind the dark", x.cell(6, 0, 0, 3), NONE);
        x.go(5, 6, 0);
        due("6: 5's", x.cell(7, 0, 0, 3), 5);
        x.go(0, 6, 0);
        due("6: 0's", x.cell(7, 0, 0, 3), 0);
        due("6: 5's behind it", x.cell(8, 0, 0, 3), 5);
    }

    // ---- promises 7 and 8

    /** Promise 7: "Of a PERSON ... UNKNOWN". */
    private static void personUnknown() {
        ShadowTax x = on("ground 4 3;sun 2 1 1 1;person 0 0 1;person 3 2 2;");
        for (int what = 0; what <= 6; what++) {
            for (int p : beyond(2)) {
                due("7: person(" + p + ", " + what + ")", x.person(p, what), UNKNOWN);
            }
        }
        due("7: the last one", x.person(1, 0), 3);
        due("7: without persons", on("ground 4 3;").person(0, 0), UNKNOWN);
        due("7: the sixth", on("ground 4 3;" + repeated("person 2 1 1;", 6)).person(5, 0), 2);
        due("7: a seventh", on("ground 4 3;" + repeated("person 2 1 1;", 6)).person(6, 0), UNKNOWN);
    }

    /** Promise 7: "what = 0 X, ... 6 WORST. UNKNOWN, OUTSIDE." */
    private static void personOutside() {
        ShadowTax x = on("ground 4 3;sun 2 1 1 2;person 1 2 2;");
        for (int what : beyond(7)) {
            due("7: person(0, " + what + ")", x.person(0, what), OUTSIDE);
            due("7: person(1, " + what + ")", x.person(1, what), UNKNOWN);
        }
        int[] all = {1, 2, 2, 0, 0, 4, 2};
        for (int what = 0; what <= 6; what++) {
            due("7: person(0, " + what + ")", x.person(0, what), all[what]);
        }
    }

    /** Promise 7: "2 T (a FOLDED hat counts), 3 whether it is FOLDED (1, 0)": 1 high, 9 high. */
    private static void heightWithAFoldedHat() {
        ShadowTax x = on("ground 2 1;person 0 0 1;person 0 0 9;");
        int[] high = {1, 9};
        for (int p = 0; p < 2; p++) {
            due("7: T", x.person(p, 2), high[p]);
            due("7: not FOLDED", x.person(p, 3), 0);
            x.fold(p, true);
            due("7: T, FOLDED", x.person(p, 2), high[p] - 1);
            due("7: FOLDED", x.person(p, 3), 1);
            x.fold(p, true);
            due("7: T, FOLDED twice", x.person(p, 2), high[p] - 1);
            x.fold(p, false);
            due("7: T again", x.person(p, 2), high[p]);
        }
    }

    /** Promise 8: "OWED. UNKNOWN." */
    private static void owedUnknown() {
        ShadowTax x = on("ground 4 3;sun 2 1 1 1;sun 0 1 1 1;person 0 0 1;person 3 2 2;");
        for (int i : beyond(2)) {
            due("8: owed(" + i + ", 0)", x.owed(i, 0), UNKNOWN);
            due("8: owed(0, " + i + ")", x.owed(0, i), UNKNOWN);
            due("8: owed(" + i + ", " + i + ")", x.owed(i, i), UNKNOWN);
        }
        due("8: the first", x.owed(0, 0), 1);
        due("8: the last", x.owed(1, 1), 2);
        due("8: without hours", on("ground 4 3;person 0 0 1;").owed(0, 0), UNKNOWN);
        due("8: without persons", on("ground 4 3;sun 2 1 1 1;").owed(0, 0), UNKNOWN);
    }

    // ---- 2 A SHADOW (promises 6 to 8)

    /** Promise 6: "the CELLS 1, 2, .. T times L steps on": none for L 0, not one more, at most all. */
    private static void shadowsAreSoLong() {
        for (int t = 1; t <= 9; t++) {
            for (int l = 0; l <= 3; l++) {
                ShadowTax x = on("ground 9 2;sun 2 1 " + l + " 1;person 0 0 " + t + ";house 0 1 " + t + ";");
                for (int c = 0; c < 9; c++) {
                    int is = c >= 1 && c <= t * l ? 1 : 0;
                    due("6: T " + t + ", L " + l + ", a person's shadow on " + c, x.cell(c, 0, 0, 2), is);
                    due("6: T " + t + ", L " + l + ", a house's shadow on " + c, x.cell(c, 1, 0, 1), is);
                }
                due("8: T " + t + ", L " + l + ", OWED", x.owed(0, 0), Math.min(8, t * l));
            }
        }
    }

    /** Promise 6: "up to the ground's end", each way from each cell. */
    private static void shadowsEndAtTheGroundsEnd() {
        for (int d = 0; d < 9; d++) {
            for (int c = 0; d != 4 && c < 20; c++) {
                ShadowTax x = on("ground 5 4;sun " + d % 3 + " " + d / 3 + " 3 1;person " + c % 5 + " " + c / 5 + " 9;");
                boolean[] lit = new boolean[20];
                int count = 0;
                int sx = c % 5 + d % 3 - 1;
                int sy = c / 5 + d / 3 - 1;
                while (sx >= 0 && sy >= 0 && sx < 5 && sy < 4) {
                    lit[sy * 5 + sx] = true;
                    count++;
                    sx += d % 3 - 1;
                    sy += d / 3 - 1;
                }
                for (int i = 0; i < 20; i++) {
                    due("6: way " + d + " from " + c + " on " + i, x.cell(i % 5, i / 5, 0, 2), lit[i] ? 1 : 0);
                }
                due("8: way " + d + " from " + c, x.owed(0, 0), count);
            }
        }
    }

    /** Promise 6: "up to the ground's end": what is right of the last X is not the next Y's first. */
    private static void shadowsDoNotGoRound() {
        ShadowTax x = on("ground 3 3;sun 2 1 3 1;sun 0 1 3 1;sun 2 2 3 1;sun 0 0 3 1;sun 1 2 3 1;sun 1 0 3 1;person 2 1 9;person 0 1 9;");
        due("8: right of the last X", x.owed(0, 0), 0);
        due("8: left of the first X", x.owed(1, 1), 0);
        due("8: down right of the last X", x.owed(0, 2), 0);
        due("8: up left of the first X", x.owed(1, 3), 0);
        x.go(0, 2, 2);
        x.go(1, 0, 0);
        due("8: below the last Y", x.owed(0, 4), 0);
        due("8: above the first Y", x.owed(1, 5), 0);
    }

    /** Promise 6: "or to ahead of a house that it meets", a low one, too: next to it, within reach, just beyond. */
    private static void shadowsEndAheadOfHouses() {
        for (int house = 1; house < 6; house++) {
            ShadowTax x = on("ground 6 1;house " + house + " 0 1;sun 2 1 1 1;person 0 0 3;");
            due("8: a house at " + house, x.owed(0, 0), Math.min(3, house - 1));
            for (int c = 0; c < 6; c++) {
                due("6: a house at " + house + ", shadow on " + c, x.cell(c, 0, 0, 2), c >= 1 && c <= 3 && c < house ? 1 : 0);
            }
        }
        // A house's shadow ends ahead of another house, as well; the two are not dark themselves.
        ShadowTax x = on("ground 7 1;house 0 0 9;house 1 0 1;house 4 0 1;sun 2 1 1 1;");
        int[] dark = {0, 0, 1, 0, 0, 1, 0};
        for (int c = 0; c < 7; c++) {
            due("6: houses ahead of each other, dark at " + c, x.cell(c, 0, 0, 1), dark[c]);
        }
        // Aslant it goes by between two houses.
        x = on("ground 3 3;house 1 0 1;house 0 1 1;sun 2 2 1 1;person 0 0 9;");
        due("8: between two houses", x.owed(0, 0), 2);
    }

    /** Promise 6: "(Its own CELL is not part of it.)" */
    private static void ownCellIsNoPartOfAShadow() {
        ShadowTax x = on("ground 3 1;house 2 0 9;sun 0 1 1 1;sun 2 1 1 1;person 0 0 9;");
        due("6: a house's own cell is not dark", x.cell(2, 0, 0, 1), 0);
        due("6: a person's own cell", x.cell(0, 0, 1, 2), 0);
        due("6: nobody owes it", x.cell(0, 0, 1, 3), NONE);
        due("8: one cell, no shadow", on("ground 1 1;sun 2 1 3 1;person 0 0 9;").owed(0, 0), 0);
    }

    /** Promise 7: "PERSONS have a hat that is 1 of T high: FOLDED, T is one less": of 1 nothing is left. */
    private static void foldedIsOneLess() {
        ShadowTax x = on("ground 9 1;sun 2 1 1 1;person 0 0 1;sun 2 1 3 1;");
        due("8: 1 high", x.owed(0, 0), 1);
        due("8: 1 high, L 3", x.owed(0, 1), 3);
        x.fold(0, true);
        due("8: 0 high", x.owed(0, 0), 0);
        due("8: 0 high, L 3", x.owed(0, 1), 0);
        due("6: 0 high, no shadow", x.cell(1, 0, 0, 2), 0);
        x = on("ground 9 1;sun 2 1 1 1;person 0 0 8;");
        x.fold(0, true);
        due("8: 8 high, FOLDED", x.owed(0, 0), 7);
    }

    /** Promise 6: "DARK at an HOUR: CELLS in SHADOWS of houses": without houses none; not by persons. */
    private static void darkCells() {
        ShadowTax x = on("ground 4 1;sun 2 1 1 1;sun 2 1 0 1;person 0 0 9;");
        for (int c = 0; c < 4; c++) {
            due("6: no house, " + c, x.cell(c, 0, 0, 1), 0);
        }
        x.go(0, 3, 0);
        x.build(0, 0, 9);
        for (int c = 0; c < 4; c++) {
            due("6: a house at 0, " + c, x.cell(c, 0, 0, 1), c == 0 ? 0 : 1);
            due("6: a house at 0 with L 0, " + c, x.cell(c, 0, 1, 1), 0);
        }
    }

    /** Promise 8: "A PERSON whose CELL is DARK has no SHADOW": at that hour alone, and only up to the dark's end. */
    private static void personsInTheDark() {
        ShadowTax x = on("ground 6 2;house 0 0 2;sun 2 1 1 1;sun 1 2 1 1;person 2 0 3;person 3 0 3;");
        due("8: on the last dark cell", x.owed(0, 0), 0);
        due("6: no shadow", x.cell(3, 0, 0, 2), 0);
        due("8: at another hour", x.owed(0, 1), 1);
        due("8: just behind the dark", x.owed(1, 0), 2);
        due("7: MEAN", x.person(0, 5), 1);
        due("7: WORST", x.person(0, 6), 1);
        x.build(0, 0, 1);
        due("8: a lower house", x.owed(0, 0), 3);
    }

    /** Promise 8: a PERSON without a SHADOW leaves what would be his to the next one. */
    private static void personsInTheDarkLeaveCellsToOthers() {
        ShadowTax x = on("ground 6 1;house 0 0 1;sun 2 1 1 1;person 1 0 9;person 2 0 2;");
        due("8: the lesser one in the dark", x.owed(0, 0), 0);
        due("8: the other one", x.owed(1, 0), 2);
        x.law(1);
        due("8: the taller one in the dark", x.owed(1, 0), 2);
        x.build(0, 0, 0);
        due("8: the taller one in the light", x.owed(0, 0), 4);
        due("8: the other one then", x.owed(1, 0), 0);
    }

    /** Promise 8: "each CELL that is in a PERSON's SHADOW, not DARK, not with a house, is owed": and no other one. */
    private static void darkCellsAreNotOwed() {
        for (int d = 0; d < 9; d++) {
            if (d == 4) {
                continue;
            }
            ShadowTax x = on("ground 4 4;house 1 1 1;house 2 3 9;house 3 0 2;sun " + d % 3 + " " + d / 3 + " 1 1;"
                + "person 0 0 9;person 3 3 9;person 0 3 9;person 2 0 9;");
            int[] owed = new int[4];
            for (int c = 0; c < 16; c++) {
                int ower = x.cell(c % 4, c / 4, 0, 3);
                boolean may = x.cell(c % 4, c / 4, 0, 0) == 0 && x.cell(c % 4, c / 4, 0, 1) == 0 && x.cell(c % 4, c / 4, 0, 2) != 0;
                due("6: way " + d + ", somebody owes " + c, ower == NONE ? 0 : 1, may ? 1 : 0);
                if (ower >= 0 && ower < 4) {
                    owed[ower]++;
                }
            }
            for (int p = 0; p < 4; p++) {
                due("8: way " + d + ", owed(" + p + ", 0)", x.owed(p, 0), owed[p]);
            }
        }
    }

    /** Promise 8: "not with a house". */
    private static void houseCellsAreNotOwed() {
        ShadowTax x = on("ground 3 1;sun 2 1 1 1;person 0 0 2;");
        due("8: without a house", x.owed(0, 0), 2);
        x.build(2, 0, 1);
        due("8: with one at the end", x.owed(0, 0), 1);
        due("6: nobody owes it", x.cell(2, 0, 0, 3), NONE);
        x.build(1, 0, 1);
        due("8: with one beside", x.owed(0, 0), 0);
    }

    /** Promise 8: "LAW 0 (at first): the least". */
    private static void leastOfThoseWhoseShadowItIs() {
        ShadowTax x = on("ground 6 1;sun 2 1 1 1;person 2 0 1;person 1 0 2;person 0 0 9;");
        int[] owers = {NONE, 2, 1, 0, 2, 2};
        for (int c = 0; c < 6; c++) {
            due("6: LAW 0, who owes " + c, x.cell(c, 0, 0, 3), owers[c]);
        }
        due("8: LAW 0, 0", x.owed(0, 0), 1);
        due("8: LAW 0, 1", x.owed(1, 0), 1);
        due("8: LAW 0, 2", x.owed(2, 0), 3);
    }

    /** Promise 8: "LAW 1: the tallest (hats FOLDED counting; of like ones the least)". */
    private static void tallestOfThoseWhoseShadowItIs() {
        ShadowTax x = on("ground 9 1;sun 2 1 1 1;person 0 0 3;person 0 0 4;person 0 0 4;");
        x.law(1);
        due("8: LAW 1, the tallest, the least of two", x.owed(1, 0), 4);
        due("8: LAW 1, as tall", x.owed(2, 0), 0);
        x.fold(1, true);
        due("8: LAW 1, 1 FOLDED: 2 is taller", x.owed(2, 0), 4);
        due("8: LAW 1, 1 FOLDED", x.owed(1, 0), 0);
        x.fold(2, true);
        due("8: LAW 1, all alike: the least", x.owed(0, 0), 3);
        due("8: LAW 1, all alike: 1", x.owed(1, 0), 0);
        due("8: LAW 1, all alike: 2", x.owed(2, 0), 0);
        x.fold(0, true);
        due("8: LAW 1, 0 the least high", x.owed(0, 0), 0);
        due("8: LAW 1, 1 again", x.owed(1, 0), 3);
        x.law(0);
        due("8: LAW 0 again", x.owed(0, 0), 2);
        due("8: LAW 0 again, 1", x.owed(1, 0), 1);
    }

    /** Promise 8: "is owed by one of those whose SHADOW it is": the first CELL alone, the 48th alone, in two shadows. */
    private static void firstAndLastCellInTwoShadows() {
        for (int rule = 0; rule < 2; rule++) {
            ShadowTax x = on("ground 8 6;sun 0 1 1 1;sun 2 1 1 1;person 1 0 1;person 1 0 1;person 6 5 1;person 6 5 1;");
            x.law(rule);
            int[] owed = {1, 0, 1, 0};
            for (int p = 0; p < 4; p++) {
                due("8: LAW " + rule + ", the cell beside " + p, x.owed(p, p / 2), owed[p]);
            }
            due("6: LAW " + rule + ", both shadows on the first cell", x.cell(0, 0, 0, 2), 3);
            due("6: LAW " + rule + ", who owes the first cell", x.cell(0, 0, 0, 3), 0);
            due("6: LAW " + rule + ", both shadows on the last cell", x.cell(7, 5, 1, 2), 12);
            due("6: LAW " + rule + ", who owes the last cell", x.cell(7, 5, 1, 3), 2);
        }
    }

    /** Promise 7: "OWED at each HOUR times its S, together (a sum; not parted by all S)": S 0, 20. */
    private static void meanIsNotPartedByShares() {
        ShadowTax x = on("ground 9 1;sun 2 1 1 0;sun 2 1 2 20;sun 2 1 3 1;person 0 0 2;person 0 0 9;");
        due("7: MEAN of 0", x.person(0, 5), 4 * 20 + 6);
        due("7: MEAN of 1", x.person(1, 5), 4 * 20 + 2);
        due("5: MEAN of all", x.told(10), 8 * 20 + 8);
    }

    /** Promise 5, 7: MEAN without shares, without hours, without persons. */
    private static void meanOfNothing() {
        ShadowTax x = on("ground 9 1;sun 2 1 1 0;person 0 0 2;");
        due("7: MEAN without shares", x.person(0, 5), 0);
        due("5: MEAN of all without shares", x.told(10), 0);
        x = on("ground 9 1;person 0 0 2;");
        due("7: MEAN without hours", x.person(0, 5), 0);
        due("5: MEAN of all without hours", x.told(10), 0);
        due("5: MEAN of all without persons", on("ground 9 1;sun 2 1 1 1;").told(10), 0);
    }

    /** Promise 7: "WORST: the greatest OWED at an HOUR with S above 0 (0 without)". */
    private static void worstIsOfHoursWithShares() {
        ShadowTax x = on("ground 9 1;sun 2 1 3 0;sun 2 1 1 1;sun 2 1 2 1;sun 2 1 0 20;person 0 0 2;");
        due("7: the greatest with S above 0", x.person(0, 6), 4);
        due("8: more is owed without S", x.owed(0, 0), 6);
        due("7: without shares", on("ground 9 1;sun 2 1 3 0;person 0 0 2;").person(0, 6), 0);
        due("7: without hours", on("ground 9 1;person 0 0 2;").person(0, 6), 0);
        due("7: nothing owed", on("ground 9 1;sun 2 1 3 5;person 8 0 2;").person(0, 6), 0);
    }
}
