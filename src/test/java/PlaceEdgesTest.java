/**
 * Boundary cases of promises 14 to 21 and of what "3 BEST PLACE" says of places, walks, couples, walls and the richest
 * hour: a test for each sentence that names one, with its words.
 */
public final class PlaceEdgesTest extends Edges {
    public static void main(String[] args) {
        bestUnknownAndOutside();
        bestIsOnACellWithoutAHouse();
        bestWithOthersAsTheyAre();
        bestOfLikeOnesIsTheFirst();
        bestByWorstLooksAtShares();
        bestInTheDark();
        errandUnknown();
        errandIsFullAtTen();
        errandMayBeOnAHouse();
        walkUnknown();
        walkWithoutHours();
        walkOfOneHour();
        walkBeginsWhereItIs();
        walkGoesOneCellOn();
        walkGoesOnCellsWithoutAHouse();
        walkGoesPastOthers();
        walkDoesItsErrandsAlone();
        walkThatThereIsNot();
        walkOfLikeOnesIsTheFirst();
        walkWithTenErrandsInSixHours();
        coupleUnknown();
        coupleMayBeBelowZero();
        coupleOnTheBetterCell();
        coupleOfTheGreaterHeight();
        coupleIsTheLesserOne();
        couplesUnknown();
        couplesOfNobodyAndOfOne();
        couplesWorthNothingWalkAlone();
        couplesOfLikeOnesTheFirst();
        couplesOfSix();
        couplesAreParted();
        wallUnknown();
        wallOutside();
        wallNotOnHousesAndPersons();
        wallMayCostBelowZero();
        wallIsNotBuilt();
        bestWallUnknown();
        bestWallOutside();
        bestWallWithoutAFreeCell();
        bestWallOfLikeOnesIsTheFirst();
        bestWallForAPerson();
        richestOutside();
        richestWithoutHours();
        richestOfLikeOnesIsTheFirst();
        richestWithoutPersonsOrShares();
        placesOnTheGreatestGround();
        Check.end("PlaceEdgesTest");
    }

    // ---- promise 14

    /** Promise 14: "BEST PLACE: 10 times X and Y. UNKNOWN, OUTSIDE.", "(what = 0), its WORST (1)". */
    private static void bestUnknownAndOutside() {
        ShadowTax x = on("ground 3 1;person 0 0 1;person 2 0 1;");
        for (int i : beyond(2)) {
            due("14: best(" + i + ", 0)", x.best(i, 0), UNKNOWN);
            due("14: best(" + i + ", 1)", x.best(i, 1), UNKNOWN);
            due("14: best(1, " + i + ")", x.best(1, i), OUTSIDE);
            due("14: best(" + i + ", " + i + ")", x.best(i, i), UNKNOWN);
        }
        due("14: without persons", on("ground 3 1;").best(0, 0), UNKNOWN);
    }

    /** Promise 14: "of all CELLS without a house": the only one, the last one, its own one. */
    private static void bestIsOnACellWithoutAHouse() {
        for (int what = 0; what < 2; what++) {
            due("14: one cell", on("ground 1 1;sun 2 1 1 1;person 0 0 9;").best(0, what), 0);
            due("14: all others have houses", on("ground 2 2;house 0 0 1;house 1 0 1;house 0 1 1;sun 2 1 1 1;person 1 1 9;").best(0, what), 11);
            due("14: the last one", on("ground 4 1;sun 2 1 1 1;person 0 0 1;").best(0, what), 30);
            due("14: its own one", on("ground 4 1;sun 2 1 1 1;person 3 0 1;").best(0, what), 30);
        }
    }

    /** Promise 14: "(others as they are)": one may stand where another PERSON is, and in its shadow. */
    private static void bestWithOthersAsTheyAre() {
        ShadowTax x = on("ground 4 1;sun 2 1 1 1;person 3 0 1;person 0 0 1;");
        due("14: where another one is", x.best(1, 0), 30);
        due("14: where another one is, WORST", x.best(1, 1), 30);
        // 0 owes all from 0 on, so 1 owes nothing anywhere.
        x = on("ground 4 1;sun 2 1 1 1;person 0 0 9;person 2 0 1;");
        due("14: in another's shadow", x.best(1, 0), 0);
        due("14: nobody goes", placeOf(x, 1), 20);
    }

    /** Promise 14: "of like ones the first (Y by Y, X rising)". */
    private static void bestOfLikeOnesIsTheFirst() {
        for (int what = 0; what < 2; what++) {
            due("14: all alike", on("ground 3 3;person 2 2 1;").best(0, what), 0);
            due("14: X rises ahead of Y", on("ground 3 3;house 0 0 1;person 2 2 1;").best(0, what), 10);
            due("14: then the next Y", on("ground 2 3;house 0 0 1;house 1 0 1;person 1 2 1;").best(0, what), 1);
            due("14: two ends alike", on("ground 3 2;sun 2 1 1 1;person 0 0 1;").best(0, what), 20);
        }
    }

    /** Promise 14: "its WORST (1)": hours with S above 0; 0 everywhere without. */
    private static void bestByWorstLooksAtShares() {
        due("14: an hour without shares", on("ground 3 1;sun 2 1 1 1;sun 0 1 1 0;person 1 0 2;").best(0, 1), 20);
        due("14: without shares", on("ground 3 1;sun 2 1 1 0;person 1 0 2;").best(0, 1), 0);
        due("14: without hours", on("ground 3 1;person 1 0 2;").best(0, 1), 0);
        // MEAN: 3 times what is right of it, and what is left of it; WORST: the greater one of both.
        ShadowTax x = on("ground 5 1;sun 2 1 1 3;sun 0 1 1 1;person 0 0 9;");
        due("14: least MEAN", x.best(0, 0), 40);
        due("14: least WORST", x.best(0, 1), 20);
    }

    /** Promise 14: on a DARK cell nothing is owed. */
    private static void bestInTheDark() {
        ShadowTax x = on("ground 5 1;house 0 0 1;sun 2 1 1 1;person 2 0 1;");
        due("14: the dark cell comes first", x.best(0, 0), 10);
        due("14: the dark cell comes first, WORST", x.best(0, 1), 10);
    }

    // ---- promise 15

    /** Promise 15: "An ERRAND of a PERSON ... UNKNOWN". */
    private static void errandUnknown() {
        ShadowTax x = on("ground 4 3;sun 2 1 1 1;sun 2 1 1 1;person 0 0 1;person 1 1 1;");
        for (int i : beyond(2)) {
            due("15: errand(" + i + ", 0, 0, 0)", x.errand(i, 0, 0, 0), UNKNOWN);
            due("15: errand(0, 0, 0, " + i + ")", x.errand(0, 0, 0, i), UNKNOWN);
        }
        for (int i : beyond(4)) {
            due("15: errand(0, " + i + ", 0, 0)", x.errand(0, i, 0, 0), UNKNOWN);
        }
        for (int i : beyond(3)) {
            due("15: errand(0, 0, " + i + ", 0)", x.errand(0, 0, i, 0), UNKNOWN);
        }
        due("15: none of them is there", x.told(7), 0);
        due("15: the last of all", x.errand(1, 3, 2, 1), 1);
        due("15: without hours", on("ground 4 3;person 0 0 1;").errand(0, 0, 0, 0), UNKNOWN);
    }

    /** Promise 15: "how many there are. UNKNOWN, FULL (10).", "ERRANDS (10 at most": of all persons together. */
    private static void errandIsFullAtTen() {
        ShadowTax x = on("ground 3 1;sun 2 1 1 1;person 0 0 1;person 0 0 1;");
        for (int i = 1; i <= 10; i++) {
            due("15: errand " + i, x.errand(i % 2, 0, 0, 0), i);
        }
        due("15: an 11th", x.errand(0, 2, 0, 0), FULL);
        due("15: an 11th of 1", x.errand(1, 0, 0, 0), FULL);
        due("15: an 11th of nobody", x.errand(2, 0, 0, 0), UNKNOWN);
        due("15: ten", x.told(7), 10);
        due("15: the 11th is not done", x.walk(0, 0), 0);
        x.tear();
        due("15: the first again", x.errand(0, 0, 0, 0), 1);
    }

    /** Promise 15: a CELL with a house is a CELL: refused is none but what is UNKNOWN; no WALK does it. */
    private static void errandMayBeOnAHouse() {
        ShadowTax x = on("ground 3 1;house 1 0 1;sun 2 1 1 1;sun 2 1 1 1;person 0 0 1;");
        due("15: on a house", x.errand(0, 1, 0, 1), 1);
        due("16: no walk", x.walk(0, NONE), NONE);
        x.build(1, 0, 0);
        due("16: a walk without the house", x.walk(0, 1), 10);
    }

    // ---- promise 16

    /** Promise 16: "hour = NONE the MEAN of it, else 10 times X and Y at that HOUR; NONE. UNKNOWN." */
    private static void walkUnknown() {
        ShadowTax x = on("ground 4 3;sun 2 1 1 1;sun 2 1 1 1;person 0 0 1;person 1 1 1;");
        for (int i : beyond(2)) {
            due("16: walk(" + i + ", NONE)", x.walk(i, NONE), UNKNOWN);
            due("16: walk(" + i + ", 0)", x.walk(i, 0), UNKNOWN);
        }
        for (int i : beyondButNone(2)) {
            due("16: walk(0, " + i + ")", x.walk(0, i), UNKNOWN);
        }
        x.errand(0, 3, 2, 1);
        due("16: no walk, an hour that there is not", x.walk(0, 2), UNKNOWN);
        due("16: no walk, hour 0", x.walk(0, 0), NONE);
        due("16: no walk, hour 1", x.walk(0, 1), NONE);
        due("16: no walk, NONE", x.walk(0, NONE), NONE);
    }

    /** Promise 16: "0 without HOURS". */
    private static void walkWithoutHours() {
        ShadowTax x = on("ground 4 3;person 3 2 9;");
        due("16: without hours", x.walk(0, NONE), 0);
        due("16: without hours, hour 0", x.walk(0, 0), UNKNOWN);
    }

    /** Promise 16: one HOUR: it is where it is. */
    private static void walkOfOneHour() {
        ShadowTax x = on("ground 4 3;sun 2 1 1 7;person 1 2 9;");
        due("16: hour 0", x.walk(0, 0), 12);
        due("16: MEAN", x.walk(0, NONE), 14);
        due("16: hour 1", x.walk(0, 1), UNKNOWN);
    }

    /** Promise 16: "from where it is now (HOUR 0)": an ERRAND at HOUR 0 there, next to it. */
    private static void walkBeginsWhereItIs() {
        ShadowTax x = on("ground 4 1;sun 2 1 1 1;sun 2 1 1 1;person 1 0 1;");
        due("16: hour 0", x.walk(0, 0), 10);
        x.errand(0, 1, 0, 0);
        due("16: an errand at hour 0 where it is", x.walk(0, NONE), 2);
        x.go(0, 2, 0);
        due("16: an errand at hour 0 where it was", x.walk(0, NONE), NONE);
        x.tear();
        due("16: hour 0 now", x.walk(0, 0), 20);
        due("16: on to the ground's end", x.walk(0, 1), 30);
        due("16: MEAN now", x.walk(0, NONE), 1);
    }

    /** Promise 16: "each HOUR on one CELL on at most along X and along Y": none, one, aslant; not two, not round. */
    private static void walkGoesOneCellOn() {
        String text = "ground 5 5;sun 2 1 0 0;sun 2 1 0 0;sun 2 1 0 0;person 2 2 1;";
        for (int c = 0; c < 25; c++) {
            int far = Math.max(Math.abs(c % 5 - 2), Math.abs(c / 5 - 2));
            ShadowTax x = on(text);
            x.errand(0, c % 5, c / 5, 1);
            due("16: on " + c + " at hour 1", x.walk(0, 1), far <= 1 ? 10 * (c % 5) + c / 5 : NONE);
            x.tear();
            x.errand(0, c % 5, c / 5, 2);
            due("16: on " + c + " at hour 2", x.walk(0, 2), 10 * (c % 5) + c / 5);
        }
        ShadowTax x = on("ground 3 3;sun 2 1 0 0;sun 2 1 0 0;person 2 0 1;person 0 1 1;person 0 0 1;person 2 2 1;");
        x.errand(0, 0, 1, 1);
        due("16: not round from the last X to the next Y", x.walk(0, NONE), NONE);
        x.errand(1, 2, 0, 1);
        due("16: not round from the first X to the Y before", x.walk(1, NONE), NONE);
        x.errand(2, 2, 2, 1);
        due("16: not round from the first corner", x.walk(2, NONE), NONE);
        x.errand(3, 0, 2, 1);
        due("16: not round from the last corner", x.walk(3, NONE), NONE);
    }

    /** Promise 16: "on CELLS without a house". */
    private static void walkGoesOnCellsWithoutAHouse() {
        ShadowTax x = on("ground 3 2;house 1 0 1;sun 2 1 0 0;sun 2 1 0 0;sun 2 1 0 0;person 0 0 1;");
        x.errand(0, 2, 0, 2);
        due("16: by the other line", x.walk(0, 1), 11);
        x.build(1, 1, 1);
        due("16: houses bar the way", x.walk(0, 1), NONE);
        x.tear();
        due("16: without the errand", x.walk(0, 2), 0);
    }

    /** Promise 16: "all others where they are": they are in nobody's way, and their shadows count. */
    private static void walkGoesPastOthers() {
        ShadowTax x = on("ground 4 1;sun 2 1 1 1;sun 2 1 1 1;sun 2 1 1 1;person 1 0 1;person 0 0 2;");
        x.errand(1, 2, 0, 2);
        // Hour 0 at 0: 1 and 2, of which 2 is 0's; hour 1 at 1: 2 and 3, of which 2 is 0's; hour 2 at 2: 3.
        due("16: by a cell where 0 is", x.walk(1, 1), 10);
        due("16: MEAN", x.walk(1, NONE), 3);
        due("16: nobody goes", placeOf(x, 1), 0);
    }

    /** Promise 16: "that does its ERRANDS": all of its own, none of another's. */
    private static void walkDoesItsErrandsAlone() {
        ShadowTax x = on("ground 4 1;sun 2 1 0 0;sun 2 1 0 0;person 1 0 1;person 1 0 1;");
        x.errand(1, 3, 0, 1);
        due("16: another's errand", x.walk(0, 1), 0);
        due("16: which that one cannot do", x.walk(1, 1), NONE);
        x.errand(0, 2, 0, 1);
        due("16: its own", x.walk(0, 1), 20);
        x.errand(0, 2, 0, 1);
        due("16: the same twice", x.walk(0, 1), 20);
        x.errand(0, 1, 0, 1);
        due("16: two places at one hour", x.walk(0, 1), NONE);
    }

    /** Promise 16: "NONE: there is none": also where each ERRAND alone could be done. */
    private static void walkThatThereIsNot() {
        ShadowTax x = on("ground 5 1;sun 2 1 0 0;sun 2 1 0 0;sun 2 1 0 0;person 2 0 1;");
        x.errand(0, 1, 0, 1);
        x.errand(0, 3, 0, 2);
        due("16: 1 and 3 one behind the other", x.walk(0, NONE), NONE);
        x.tear();
        x.errand(0, 1, 0, 1);
        x.errand(0, 0, 0, 2);
        due("16: 1 and 0 one behind the other", x.walk(0, NONE), 0);
        x.go(0, 4, 0);
        due("16: from too far", x.walk(0, NONE), NONE);
    }

    /** Promise 16: "of like ones the first (HOUR by HOUR the first CELL: Y by Y, X rising)". */
    private static void walkOfLikeOnesIsTheFirst() {
        ShadowTax x = on("ground 5 5;sun 2 1 0 1;sun 2 1 0 1;sun 2 1 0 1;person 3 3 1;");
        due("16: hour 0", x.walk(0, 0), 33);
        due("16: hour 1", x.walk(0, 1), 22);
        due("16: hour 2", x.walk(0, 2), 11);
        x = on("ground 3 3;house 0 0 1;sun 2 1 0 1;sun 2 1 0 1;person 1 1 1;");
        due("16: X rises ahead of Y", x.walk(0, 1), 10);
        // At hour 2 only 0 2 (0 owes what is right of it) and the last column cost nothing. By hour 1 the first cell is
        // 0 1, from which 0 2 can be reached, though 3 0 would come first at hour 2.
        x = on("ground 4 3;sun 2 1 1 0;sun 2 1 1 0;sun 2 1 1 1;person 0 2 1;person 1 2 1;");
        due("16: MEAN", x.walk(1, NONE), 0);
        due("16: the earlier hour comes first, hour 1", x.walk(1, 1), 1);
        due("16: the earlier hour comes first, hour 2", x.walk(1, 2), 2);
        // The least MEAN comes ahead of the first cell.
        x = on("ground 3 1;sun 2 1 1 0;sun 2 1 1 1;person 1 0 2;");
        due("16: the least MEAN", x.walk(0, 1), 20);
    }

    /** Promise 16: six HOURS, ten ERRANDS. */
    private static void walkWithTenErrandsInSixHours() {
        ShadowTax x = on("ground 6 1;" + repeated("sun 2 1 1 1;", 6) + "person 0 0 1;");
        for (int i = 0; i < 5; i++) {
            x.errand(0, i, 0, i);
            x.errand(0, i, 0, i);
        }
        due("16: ten errands", x.told(7), 10);
        for (int i = 0; i < 5; i++) {
            due("16: hour " + i, x.walk(0, i), 10 * i);
        }
        due("16: the last hour is free", x.walk(0, 5), 50);
        due("16: MEAN", x.walk(0, NONE), 5);
    }

    // ---- promise 17

    /** Promise 17: "COUPLES: worth of two. UNKNOWN (one twice)." */
    private static void coupleUnknown() {
        ShadowTax x = on("ground 4 1;sun 2 1 1 1;person 0 0 1;person 3 0 1;");
        for (int i : beyond(2)) {
            due("17: couple(" + i + ", 0)", x.couple(i, 0), UNKNOWN);
            due("17: couple(0, " + i + ")", x.couple(0, i), UNKNOWN);
            due("17: couple(" + i + ", " + i + ")", x.couple(i, i), UNKNOWN);
        }
        due("17: 0 twice", x.couple(0, 0), UNKNOWN);
        due("17: 1 twice", x.couple(1, 1), UNKNOWN);
        due("17: two", x.couple(1, 0), 1);
        due("17: without hours", on("ground 4 1;person 0 0 1;person 3 0 1;").couple(0, 1), 0);
    }

    /** Promise 17: "(may be below 0)". */
    private static void coupleMayBeBelowZero() {
        // 0 has nothing of its own under LAW 1; as tall as 1 it owes what was 2's, from either cell.
        ShadowTax x = on("ground 9 1;sun 2 1 1 1;person 3 0 1;person 3 0 5;person 2 0 5;");
        x.law(1);
        due("17: below 0", x.couple(0, 2), -4);
        due("17: below 0, the other way round", x.couple(2, 0), -4);
        due("17: just 0", x.couple(0, 1), 0);
    }

    /** Promise 17: "on the CELL of either", "less MEAN of that one on the better CELL". */
    private static void coupleOnTheBetterCell() {
        ShadowTax x = on("ground 8 1;sun 2 1 1 1;person 0 0 2;person 6 0 2;");
        due("17: on the other's cell", x.couple(0, 1), 2 + 1 - 1);
        x.go(0, 6, 0);
        x.go(1, 0, 0);
        due("17: on its own cell", x.couple(0, 1), 1 + 2 - 1);
        x.go(1, 6, 0);
        due("17: on one cell", x.couple(0, 1), 1 + 0 - 1);
        x = on("ground 8 1;house 5 0 1;sun 2 1 1 1;person 0 0 2;person 6 0 2;");
        due("17: in the dark", x.couple(0, 1), 2 + 0 - 0);
    }

    /** Promise 17: "of the greater height of both then", hats FOLDED counting; both 0 high. */
    private static void coupleOfTheGreaterHeight() {
        ShadowTax x = on("ground 9 2;sun 2 1 1 1;person 0 0 1;person 0 1 5;");
        due("17: 5 high", x.couple(0, 1), 1 + 5 - 5);
        x.fold(1, true);
        due("17: 4 high", x.couple(0, 1), 1 + 4 - 4);
        x.go(1, 7, 1);
        due("17: 4 high, on the better cell", x.couple(0, 1), 1 + 1 - 1);
        x = on("ground 9 2;sun 2 1 1 1;person 0 0 1;person 0 1 1;");
        x.fold(0, true);
        due("17: one of them 0 high", x.couple(0, 1), 0 + 1 - 1);
        x.fold(1, true);
        due("17: both 0 high", x.couple(0, 1), 0);
    }

    /** Promise 17: "the lesser one (by number) ...; the other one has no SHADOW", "others as they are". */
    private static void coupleIsTheLesserOne() {
        // As one they are 0 under LAW 0: it comes ahead of 1, whose cells are 0's then; 2 has no shadow.
        ShadowTax x = on("ground 9 1;sun 2 1 1 1;person 7 0 1;person 0 0 8;person 0 0 3;");
        // 0: 8; 1: 1 .. 7; 2: nothing. 0 and 2 as one, 3 high: on 7: 8; on 0: 1 2 3.
        due("17: 0 and 2", x.couple(0, 2), 1 + 0 - 1);
        // 1 and 2 as one is 1, 8 high: 1 .. 7 (8 is 0's).
        due("17: 1 and 2", x.couple(1, 2), 7 + 0 - 7);
        // 0 and 1 as one is 0, 8 high: on 7: 8 alone, with 2 as it is.
        due("17: 0 and 1", x.couple(0, 1), 1 + 7 - 1);
        due("17: they stay as they are", x.owed(1, 0), 7);
        // 1 is the one that comes behind 0: what both cast is 0's.
        x = on("ground 9 1;sun 2 1 1 1;person 0 0 8;person 5 0 1;person 1 0 1;");
        due("17: under another's shadow", x.couple(1, 2), 0);
        // The other one's shadow is gone: what it took from the one is the one's.
        x = on("ground 9 1;sun 2 1 1 1;person 0 0 2;person 1 0 4;");
        x.law(1);
        due("17: 0 owes", x.owed(0, 0), 1);
        due("17: 1 owes", x.owed(1, 0), 4);
        due("17: as one on either", x.couple(0, 1), 5 - 4);
    }

    // ---- promise 18

    /** Promise 18: "p = NONE the sum, else with whom a PERSON walks (NONE). UNKNOWN." */
    private static void couplesUnknown() {
        ShadowTax x = on("ground 4 1;sun 2 1 1 1;person 0 0 1;person 3 0 1;");
        for (int p : beyondButNone(2)) {
            due("18: couples(" + p + ")", x.couples(p), UNKNOWN);
        }
        due("18: couples(NONE)", x.couples(NONE), 1);
        due("18: couples(0)", x.couples(0), 1);
        due("18: couples(1)", x.couples(1), 0);
    }

    /** Promise 18: without CELLS, without PERSONS, with one alone. */
    private static void couplesOfNobodyAndOfOne() {
        due("18: without cells", new ShadowTax().couples(NONE), 0);
        due("18: without cells, 0", new ShadowTax().couples(0), UNKNOWN);
        due("18: nobody", on("ground 4 1;sun 2 1 1 1;").couples(NONE), 0);
        due("18: nobody, 0", on("ground 4 1;sun 2 1 1 1;").couples(0), UNKNOWN);
        ShadowTax x = on("ground 4 1;sun 2 1 1 1;person 0 0 1;");
        due("18: one", x.couples(NONE), 0);
        due("18: one, with whom", x.couples(0), NONE);
    }

    /** Promise 18: "of like ones the first (... alone ahead of a couple": a couple worth 0 or below is none. */
    private static void couplesWorthNothingWalkAlone() {
        ShadowTax x = on("ground 4 1;sun 2 1 1 0;person 0 0 1;person 3 0 1;");
        due("18: worth 0, the sum", x.couples(NONE), 0);
        due("18: worth 0, 0 alone", x.couples(0), NONE);
        due("18: worth 0, 1 alone", x.couples(1), NONE);
        // 1 owes all, as 0 would with the height of 1 or 2.
        x = on("ground 9 1;sun 2 1 1 1;person 3 0 1;person 3 0 5;person 3 0 5;");
        x.law(1);
        due("18: worth 0", x.couple(0, 1), 0);
        due("18: worth below 0", x.couple(0, 2), -5);
        due("18: worth 0, the last two", x.couple(1, 2), 0);
        due("18: the sum is not below 0", x.couples(NONE), 0);
        for (int p = 0; p < 3; p++) {
            due("18: alone, " + p, x.couples(p), NONE);
        }
    }

    /** Promise 18: "PERSON by PERSON: alone ahead of a couple, the lesser one ahead". */
    private static void couplesOfLikeOnesTheFirst() {
        // Each two of them gain 3.
        String four = "ground 4 4;sun 2 1 1 1;person 0 0 3;person 0 1 3;person 0 2 3;person 0 3 3;";
        int[] of4 = {1, 0, 3, 2};
        int[] of3 = {NONE, 2, 1};
        ShadowTax x = on(four);
        due("18: four, the sum", x.couples(NONE), 6);
        for (int p = 0; p < 4; p++) {
            due("18: four, " + p, x.couples(p), of4[p]);
        }
        x = on(four.substring(0, four.lastIndexOf("person")));
        due("18: three, the sum", x.couples(NONE), 3);
        for (int p = 0; p < 3; p++) {
            due("18: three, 0 is alone: " + p, x.couples(p), of3[p]);
        }
    }

    /** Promise 18: six PERSONS: three couples; five, of whom the first may be alone. */
    private static void couplesOfSix() {
        StringBuilder text = new StringBuilder("ground 4 6;sun 2 1 1 20;");
        int[] of5 = {NONE, 2, 1, 4, 3};
        for (int p = 0; p < 6; p++) {
            text.append("person 0 " + p + " 9;");
            if (p == 4) {
                ShadowTax x = on(text.toString());
                due("18: five, the sum", x.couples(NONE), 2 * 3 * 20);
                for (int i = 0; i < 5; i++) {
                    due("18: five, " + i, x.couples(i), of5[i]);
                }
            }
        }
        ShadowTax x = on(text.toString());
        due("18: six, the sum", x.couples(NONE), 3 * 3 * 20);
        for (int p = 0; p < 6; p++) {
            due("18: six, " + p, x.couples(p), p ^ 1);
        }
        due("18: a seventh", x.couples(6), UNKNOWN);
    }

    /** Promise 18: "parting PERSONS into couples and single ones": whoever walks with one walks with no other. */
    private static void couplesAreParted() {
        ShadowTax x = on("ground 8 1;sun 2 1 1 2;person 1 0 3;person 4 0 2;person 6 0 1;");
        due("18: worth of 0 and 2", x.couple(0, 2), 6);
        due("18: worth of 1 and 2", x.couple(1, 2), 4);
        due("18: the sum", x.couples(NONE), 6);
        int[] with = {2, NONE, 0};
        for (int p = 0; p < 3; p++) {
            due("18: with whom " + p + " walks", x.couples(p), with[p]);
        }
    }

    // ---- promise 19

    /** Promise 19: "A WALL ... UNKNOWN". */
    private static void wallUnknown() {
        ShadowTax x = on("ground 4 3;sun 2 1 1 1;person 1 1 1;");
        for (int i : beyond(4)) {
            due("19: wall(" + i + ", 0, 1)", x.wall(i, 0, 1), UNKNOWN);
        }
        for (int i : beyond(3)) {
            due("19: wall(0, " + i + ", 1)", x.wall(0, i, 1), UNKNOWN);
        }
        due("19: the first cell", x.wall(0, 0, 1), 0);
        due("19: the last cell", x.wall(3, 2, 1), 0);
    }

    /** Promise 19: "(T 1 .. 9) ... OUTSIDE". */
    private static void wallOutside() {
        ShadowTax x = on("ground 4 1;sun 2 1 1 1;person 3 0 1;sun 0 1 1 5;");
        for (int t : new int[] {Integer.MIN_VALUE, -1, 0, 10, 11, 257, Integer.MAX_VALUE}) {
            due("19: wall(0, 0, " + t + ")", x.wall(0, 0, t), OUTSIDE);
        }
        due("19: T 1", x.wall(0, 0, 1), 0);
        due("19: T 9", x.wall(0, 0, 9), 0);
        due("19: in its shadow, T 1", x.wall(2, 0, 1), 5);
        due("19: in its shadow, T 9", x.wall(2, 0, 9), 5);
    }

    /** Promise 19: "NOT: a house, a PERSON": any of them. */
    private static void wallNotOnHousesAndPersons() {
        ShadowTax x = on("ground 4 1;house 0 0 1;person 1 0 1;person 3 0 1;sun 2 1 1 1;");
        due("19: a house", x.wall(0, 0, 5), NOT);
        due("19: person 0", x.wall(1, 0, 5), NOT);
        due("19: person 1", x.wall(3, 0, 5), NOT);
        due("19: free", x.wall(2, 0, 5), 0);
        x.build(2, 0, 1);
        due("19: a wall that is built", x.wall(2, 0, 5), NOT);
        x.build(0, 0, 0);
        due("19: no house any more", x.wall(0, 0, 1), 0);
    }

    /** Promise 19: "MEAN of all now less MEAN of all then": it may be below 0, 0, all. */
    private static void wallMayCostBelowZero() {
        ShadowTax x = on("ground 8 1;house 0 0 9;sun 2 1 1 3;person 5 0 2;");
        due("19: somebody comes into the light", x.wall(1, 0, 1), -6);
        due("19: somebody stays in the dark", x.wall(1, 0, 9), 0);
        due("19: beside his shadow", x.wall(7, 0, 1), 0);
        x.build(0, 0, 0);
        due("19: at the end of his shadow", x.wall(7, 0, 1), 3);
        due("19: all is taken", x.wall(6, 0, 1), 6);
        due("19: he is in the dark", x.wall(4, 0, 1), 6);
        due("19: too low", x.wall(3, 0, 1), 0);
        due("19: high enough", x.wall(3, 0, 2), 6);
        due("19: without persons", on("ground 8 1;sun 2 1 1 3;").wall(0, 0, 9), 0);
    }

    /** Promise 19, 20: what is asked of a wall builds none. */
    private static void wallIsNotBuilt() {
        ShadowTax x = on("ground 5 2;house 4 1 2;sun 2 1 1 3;sun 0 1 1 2;person 1 0 4;person 3 1 4;");
        int[] before = shown(x);
        for (int c = 0; c < 10; c++) {
            x.wall(c % 5, c / 5, 9);
        }
        x.bestWall(9, 0, 0);
        x.bestWall(9, 1, 1);
        same("19: after walls that are not built", shown(x), before);
    }

    // ---- promise 20

    /** Promise 20: "for a PERSON (what = 1; 0: it is not looked at, but there is to be such) ... UNKNOWN". */
    private static void bestWallUnknown() {
        ShadowTax x = on("ground 4 1;sun 2 1 1 1;person 0 0 1;person 2 0 1;");
        for (int p : beyond(2)) {
            for (int what = 0; what < 2; what++) {
                due("20: bestWall(1, " + p + ", " + what + ")", x.bestWall(1, p, what), UNKNOWN);
            }
        }
        due("20: by 0, what = 0", x.bestWall(1, 0, 0), 10);
        due("20: by 1, what = 0: 0 alone gains by it", x.bestWall(1, 1, 0), 10);
        due("20: without persons", on("ground 4 1;sun 2 1 1 1;").bestWall(1, 0, 0), UNKNOWN);
    }

    /** Promise 20: "(T 1 .. 9), ... (what = 1; 0 ...) ... OUTSIDE". */
    private static void bestWallOutside() {
        ShadowTax x = on("ground 4 1;sun 2 1 1 1;person 0 0 1;");
        for (int t : new int[] {Integer.MIN_VALUE, -1, 0, 10, 11, 257, Integer.MAX_VALUE}) {
            due("20: bestWall(" + t + ", 0, 0)", x.bestWall(t, 0, 0), OUTSIDE);
            due("20: bestWall(" + t + ", 1, 0)", x.bestWall(t, 1, 0), UNKNOWN);
        }
        for (int what : beyond(2)) {
            due("20: bestWall(1, 0, " + what + ")", x.bestWall(1, 0, what), OUTSIDE);
            due("20: bestWall(1, 1, " + what + ")", x.bestWall(1, 1, what), UNKNOWN);
        }
        due("20: T 1", x.bestWall(1, 0, 1), 10);
        due("20: T 9", x.bestWall(9, 0, 1), 10);
    }

    /** Promise 20: "NONE: no free CELL": houses, persons on all; one cell free. */
    private static void bestWallWithoutAFreeCell() {
        String text = "ground 2 2;house 0 0 1;house 1 0 1;sun 2 1 1 1;person 0 1 1;person 1 1 1;";
        for (int what = 0; what < 2; what++) {
            ShadowTax x = on(text);
            due("20: no free cell", x.bestWall(1, 0, what), NONE);
            x.go(0, 1, 1);
            due("20: one cell is free", x.bestWall(1, 0, what), 1);
            due("20: one cell, a person", on("ground 1 1;person 0 0 1;").bestWall(9, 0, what), NONE);
        }
    }

    /** Promise 20: "of like ones the first", that by which nothing is gained, even less than nothing. */
    private static void bestWallOfLikeOnesIsTheFirst() {
        for (int what = 0; what < 2; what++) {
            due("20: all alike", on("ground 3 2;person 2 1 1;").bestWall(1, 0, what), 0);
            due("20: X rises ahead of Y", on("ground 2 2;house 0 0 1;person 1 1 1;").bestWall(1, 0, what), 10);
            // On 2 0 it would darken him, on 4 0 stop his shadow.
            due("20: two alike", on("ground 5 2;sun 2 1 1 1;person 3 0 1;").bestWall(1, 0, what), 20);
            due("20: the only free cell, nothing gained", on("ground 3 1;house 0 0 1;sun 2 1 1 1;person 1 0 1;person 1 0 1;").bestWall(1, 0, what), 20);
        }
        // The only free cell lets three of them into the light.
        ShadowTax x = on("ground 6 1;house 0 0 5;sun 2 1 1 1;person 2 0 1;person 3 0 1;person 4 0 1;person 5 0 1;");
        due("19: the only free cell, below 0", x.wall(1, 0, 1), -2);
        due("20: the only free cell, below 0", x.bestWall(1, 0, 0), 10);
    }

    /** Promise 20: "or by which a PERSON's MEAN becomes least (what = 1)": its own, whatever the others pay. */
    private static void bestWallForAPerson() {
        ShadowTax x = on("ground 9 2;sun 2 1 1 1;person 0 0 6;person 0 1 2;");
        due("20: for all", x.bestWall(1, 1, 0), 10);
        due("20: for 0", x.bestWall(1, 0, 1), 10);
        due("20: for 1", x.bestWall(1, 1, 1), 11);
    }

    // ---- promise 21

    /** Promise 21: "what = 0 the HOUR, 1 how much; NONE. OUTSIDE." */
    private static void richestOutside() {
        ShadowTax x = on("ground 4 1;sun 2 1 1 1;person 0 0 1;");
        for (int what : beyond(2)) {
            due("21: richest(" + what + ")", x.richest(what), OUTSIDE);
            due("21: new, richest(" + what + ")", new ShadowTax().richest(what), OUTSIDE);
        }
        due("21: the hour", x.richest(0), 0);
        due("21: how much", x.richest(1), 1);
    }

    /** Promise 21: "NONE without HOURS". */
    private static void richestWithoutHours() {
        for (int what = 0; what < 2; what++) {
            due("21: without cells", new ShadowTax().richest(what), NONE);
            due("21: without hours", on("ground 4 1;person 0 0 1;").richest(what), NONE);
        }
    }

    /** Promise 21: "of like ones the first"; the last of six, if most is owed then. */
    private static void richestOfLikeOnesIsTheFirst() {
        ShadowTax x = on("ground 9 1;sun 2 1 1 1;sun 2 1 2 1;sun 2 1 2 20;person 0 0 1;");
        due("21: two alike", x.richest(0), 1);
        due("21: how much", x.richest(1), 2);
        x.go(0, 8, 0);
        due("21: all 0", x.richest(0), 0);
        due("21: all 0, how much", x.richest(1), 0);
        x = on("ground 9 1;" + repeated("sun 2 1 1 1;", 5) + "sun 2 1 3 1;person 0 0 1;");
        due("21: the last of six", x.richest(0), 5);
        due("21: the last of six, how much", x.richest(1), 3);
    }

    /** Promise 21: "the HOUR at which most is OWED together": without persons 0; an hour without shares is an HOUR. */
    private static void richestWithoutPersonsOrShares() {
        ShadowTax x = on("ground 4 1;sun 2 1 1 1;sun 2 1 1 1;");
        due("21: nobody", x.richest(0), 0);
        due("21: nobody, how much", x.richest(1), 0);
        x = on("ground 9 1;sun 2 1 1 20;sun 2 1 2 0;person 0 0 1;");
        due("21: an hour without shares", x.richest(0), 1);
        due("21: an hour without shares, how much", x.richest(1), 2);
        // Hour 0: 3 and 2; hour 1: 1 and 2.
        x = on("ground 5 2;sun 0 1 1 1;sun 2 1 1 1;person 3 0 3;person 2 1 2;");
        due("21: together", x.richest(1), 5);
        due("21: at hour 0", x.richest(0), 0);
    }

    // ---- all limits at once

    /** Promises 14, 16, 19, 20: 48 CELLS, six HOURS, six PERSONS: the last of each. */
    private static void placesOnTheGreatestGround() {
        ShadowTax x = on("ground 8 6;" + repeated("sun 2 1 1 1;", 6) + repeated("person 0 0 1;", 5) + "person 7 5 1;");
        due("14: the first cell of the last column", x.best(0, 0), 70);
        due("14: the first cell, where all is owed by 0", x.best(5, 0), 0);
        for (int hour = 0; hour < 6; hour++) {
            due("16: up the last column, hour " + hour, x.walk(5, hour), 75 - hour);
        }
        due("16: it owes nothing", x.walk(5, NONE), 0);
        x.errand(0, 5, 5, 5);
        due("16: aslant, hour 5", x.walk(0, 5), 55);
        due("16: aslant", x.walk(0, NONE), 6);
        due("19: the last cell but one", x.wall(6, 5, 9), 0);
        due("19: where the last person is", x.wall(7, 5, 9), NOT);
        for (int c = 1; c < 46; c++) {
            due("12: a house on " + c, x.build(c % 8, c / 8, 1), 0);
        }
        due("20: the only free cell", x.bestWall(9, 5, 0), 65);
        due("14: with houses around", x.best(5, 1), 0);
        due("16: houses bar", x.walk(5, 5), 65);
        x.go(5, 6, 5);
        due("20: the 48th cell", x.bestWall(1, 5, 1), 75);
        due("12: there", x.build(7, 5, 9), 0);
        due("20: no free cell", x.bestWall(1, 5, 1), NONE);
    }
}
