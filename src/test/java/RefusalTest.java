/**
 * What "Terms" says of all calls: the constants, the order of REFUSALS, that what is refused changes nothing, that what
 * has a number has it from 0 on, and the 512 calls of an object. Each line names the promise that it asks for.
 */
public final class RefusalTest extends Edges {
    private static final String ROW = "ground 5 1;house 4 0 1;sun 2 1 1 2;sun 0 1 2 1;person 1 0 2;person 3 0 1;grey 30;";

    public static void main(String[] args) {
        constantsAreFarBelow();
        unknownComesFirst();
        outsideComesNext();
        notComesAheadOfFull();
        whatIsRefusedChangesNothing();
        numbersBeginAtZero();
        objectsLast512Calls();
        Check.end("RefusalTest");
    }

    /** Terms: "NONE is -1.", "They are far below all that is counted: -1000000001 and on." */
    private static void constantsAreFarBelow() {
        due("NONE", ShadowTax.NONE, -1);
        due("UNKNOWN", ShadowTax.UNKNOWN, -1000000001);
        due("OUTSIDE", ShadowTax.OUTSIDE, -1000000002);
        due("NOT", ShadowTax.NOT, -1000000003);
        due("FULL", ShadowTax.FULL, -1000000004);
    }

    /** All rows full, 500 bytes of text, image 0 kept, image 1 not, hats folded, taxes paid. */
    private static ShadowTax full() {
        ShadowTax x = on(ROW);
        x.law(1);
        x.fold(0, true);
        x.seed(77);
        x.day(20);
        x.keep(0);
        for (int i = 0; i < 30; i++) {
            x.write(0, 0, 1);
            if (i < 10) {
                x.errand(0, 0, 0, 1);
                x.tell(0, 1);
            }
        }
        Check.feed(x, ROW);
        fill(x, 500);
        return x;
    }

    /** Terms: "REFUSALS, of several the first in this order: UNKNOWN ...": ahead of OUTSIDE, NOT, FULL. */
    private static void unknownComesFirst() {
        ShadowTax x = full();
        due("6: cell(5, 0, 0, 4)", x.cell(5, 0, 0, 4), UNKNOWN);
        due("6: cell(0, 0, 2, -1)", x.cell(0, 0, 2, -1), UNKNOWN);
        due("7: person(2, 7)", x.person(2, 7), UNKNOWN);
        due("9: go(2, 4, 0), to a house", x.go(2, 4, 0), UNKNOWN);
        due("12: build(5, 0, 10)", x.build(5, 0, 10), UNKNOWN);
        due("14: best(2, 2)", x.best(2, 2), UNKNOWN);
        due("15: errand(2, 0, 0, 0), full", x.errand(2, 0, 0, 0), UNKNOWN);
        due("15: errand(0, 5, 0, 0), full", x.errand(0, 5, 0, 0), UNKNOWN);
        due("15: errand(0, 0, 0, 2), full", x.errand(0, 0, 0, 2), UNKNOWN);
        due("19: wall(5, 0, 0)", x.wall(5, 0, 0), UNKNOWN);
        due("20: bestWall(0, 2, 0)", x.bestWall(0, 2, 0), UNKNOWN);
        due("20: bestWall(1, 2, 2)", x.bestWall(1, 2, 2), UNKNOWN);
        due("22: tell(2, 100), full", x.tell(2, 100), UNKNOWN);
        due("22: tell(2, 0), full", x.tell(2, 0), UNKNOWN);
        due("24: write(2, 0, 100), full", x.write(2, 0, 100), UNKNOWN);
        due("24: write(0, 2, 100), full", x.write(0, 2, 100), UNKNOWN);
        due("24: write(0, 2, 0), full", x.write(0, 2, 0), UNKNOWN);
        due("29: goBack(2)", x.goBack(2), UNKNOWN);
    }

    /** Terms: "... OUTSIDE (another number out of its bounds), ...": ahead of NOT, FULL. */
    private static void outsideComesNext() {
        ShadowTax x = full();
        due("2: feed(0, 0), full", x.feed(0, 0), OUTSIDE);
        due("2: feed(9, 0), full", x.feed(9, 0), OUTSIDE);
        int where = x.person(0, 0);
        due("12: build of 10 where a person is", x.build(where, 0, 10), OUTSIDE);
        due("12: build of -1 where a person is", x.build(where, 0, -1), OUTSIDE);
        due("19: wall of 0 where a person is", x.wall(where, 0, 0), OUTSIDE);
        due("19: wall of 10 where a house is", x.wall(4, 0, 10), OUTSIDE);
        due("22: tell(0, 100), full", x.tell(0, 100), OUTSIDE);
        due("22: tell(0, -1), full", x.tell(0, -1), OUTSIDE);
        due("24: write(0, 0, 100), full", x.write(0, 0, 100), OUTSIDE);
        due("24: write(0, 0, -1), full", x.write(0, 0, -1), OUTSIDE);
        due("13: day(0) without cells", new ShadowTax().day(0), OUTSIDE);
        due("13: day(100) without cells", new ShadowTax().day(100), OUTSIDE);
    }

    /** Terms: "NOT (not now, as told), FULL": each where nothing else is amiss. */
    private static void notComesAheadOfFull() {
        ShadowTax x = full();
        int where = x.person(1, 0);
        due("9: go to a house", x.go(0, 4, 0), NOT);
        due("12: build where a person is", x.build(where, 0, 9), NOT);
        due("19: wall where a person is", x.wall(where, 0, 9), NOT);
        due("19: wall where a house is", x.wall(4, 0, 1), NOT);
        due("29: goBack to what was not kept", x.goBack(1), NOT);
        due("13: day(1) without cells", new ShadowTax().day(1), NOT);
        due("2: feed(1, 0)", x.feed(1, 0), FULL);
        due("15: errand", x.errand(1, 1, 0, 1), FULL);
        due("22: tell", x.tell(1, 1), FULL);
        due("24: write", x.write(1, 1, 1), FULL);
    }

    /** Terms: "What is refused changes nothing.": every call that can be refused, each way. */
    private static void whatIsRefusedChangesNothing() {
        ShadowTax x = full();
        int[] before = shown(x);
        int refused = 0;
        int where = x.person(0, 0);
        int[] answers = {
            x.feed(0, 7), x.feed(9, 7), x.feed(1, 7), x.feed(8, 7), x.told(12), x.told(-1), x.cell(5, 0, 0, 0),
            x.cell(0, 1, 0, 0), x.cell(0, 0, 2, 0), x.cell(0, 0, 0, 4), x.person(2, 0), x.person(0, 7), x.owed(2, 0),
            x.owed(0, 2), x.go(2, 0, 0), x.go(0, 5, 0), x.go(0, 0, -1), x.go(0, 4, 0), x.fold(2, true), x.fold(-1, false),
            x.law(2), x.law(-1), x.build(-1, 0, 3), x.build(0, 1, 3), x.build(4, 0, 10), x.build(4, 0, -1),
            x.build(where, 0, 1), x.day(0), x.day(100), x.best(2, 0), x.best(0, 2), x.errand(2, 0, 0, 0),
            x.errand(0, 5, 0, 0), x.errand(0, 0, 0, 2), x.errand(1, 2, 0, 1), x.walk(2, NONE), x.walk(0, 2), x.walk(0, -2),
            x.couple(0, 0), x.couple(0, 2), x.couple(-1, 0), x.couples(2), x.couples(-2), x.wall(5, 0, 1), x.wall(0, 0, 0),
            x.wall(0, 0, 10), x.wall(4, 0, 9), x.wall(where, 0, 9), x.bestWall(0, 0, 0), x.bestWall(10, 0, 0),
            x.bestWall(9, 2, 0), x.bestWall(9, 0, 2), x.richest(2), x.richest(-1), x.tell(2, 0), x.tell(0, 100),
            x.tell(0, 0), x.stood(2, NONE), x.stood(-1, 0), x.write(2, 0, 0), x.write(0, 2, 0), x.write(0, 0, 100),
            x.write(0, 0, 0), x.seed(-1), x.seed(Integer.MIN_VALUE), x.keep(2), x.keep(-1), x.goBack(2), x.goBack(-1),
            x.goBack(1)};
        for (int answer : answers) {
            refused += answer <= UNKNOWN && answer >= FULL ? 1 : 0;
        }
        due("all of them are refused", refused, answers.length);
        same("after what was refused", shown(x), before);
        due("29: image 0 is as it was", x.goBack(0), 1);
        same("29: image 0", shown(x), before);
        due("3: the text is as it was", x.ground(), 5);
    }

    /** Terms: "What has a number has it from 0 on, as it comes.", "A SET is a whole number, bit k for k." */
    private static void numbersBeginAtZero() {
        ShadowTax x = on("ground 3 1;sun 2 1 1 1;sun 2 1 2 1;person 0 0 1;person 1 0 1;");
        due("8: the first person told, the first hour told", x.owed(0, 0), 1);
        due("8: the first person told, the second hour told", x.owed(0, 1), 2);
        due("7: the second person told", x.person(1, 0), 1);
        due("6: bit 0 for 0", x.cell(1, 0, 0, 2), 1);
        due("6: bit 1 for 1", x.cell(2, 0, 0, 2), 2);
        due("26: the first entry", x.write(0, 0, 9) + x.judge(), 1);
        due("23: the first cell", x.stood(0, 0), 0);
        due("28: image 0", x.keep(0), 1);
    }

    /** "An object is used for at most 512 calls after it has been made": the last of them answers as the first does. */
    private static void objectsLast512Calls() {
        String text = "ground 8 6;sun 2 1 1 1;sun 1 2 1 1;house 3 3 2;person 0 0 2;person 5 5 1;";
        ShadowTax x = new ShadowTax();
        int calls = 1 + (text.length() + 7) / 8;
        Check.feed(x, text);
        due("3: call " + calls + ", ground()", x.ground(), 48);
        due("28: keep(0)", x.keep(0), 1);
        int first = x.day(99);
        int fold = x.fold(1, true);
        for (calls += 3; calls + 4 <= 512; calls += 4) {
            due("29: call " + calls + ", goBack(0)", x.goBack(0), 1);
            due("13: call " + calls + ", day(99)", x.day(99), first);
            due("10: call " + calls + ", fold", x.fold(1, true), fold);
            due("20: call " + calls + ", bestWall is none of the refusals", x.bestWall(1, 0, 0) >= 0 ? 1 : 0, 1);
        }
        // Days without a way back: the treasury only grows.
        x = on("ground 8 6;" + repeated("sun 2 1 3 20;", 6) + repeated("person 0 0 9;", 6));
        int before = 0;
        for (int i = 0; i < 450; i++) {
            int now = x.day(99);
            Check.isTrue("13: the treasury grows by what 48 cells can bring, " + i, now >= before && now - before <= 99 * 48);
            before = now;
        }
        int purses = 0;
        for (int p = 0; p < 6; p++) {
            purses += x.person(p, 4);
        }
        due("13: purses and treasury", purses, -before);
    }
}
