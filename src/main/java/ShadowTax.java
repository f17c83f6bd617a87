/**
 * A ground of cells with houses, people whose shadows are taxed, and the sun hour by hour.
 * All rows are made once, by the constructors: no call makes anything new.
 */
public final class ShadowTax {
    public static final int NONE = -1, UNKNOWN = -1000000001, OUTSIDE = -1000000002, NOT = -1000000003, FULL = -1000000004;

    private static final int TEXT_LIMIT = 500, SIDE_LIMIT = 9, CELL_LIMIT = 48, HOUSE_LIMIT = 15, HOUR_LIMIT = 6, PERSON_LIMIT = 6;
    private static final int HEIGHT_LIMIT = 9, REACH_LIMIT = 3, SHARE_LIMIT = 20, HUNDRED = 100, SUM_LIMIT = 99, DAY_LIMIT = 99;
    private static final int ERRAND_LIMIT = 10, TOLD_LIMIT = 10, BOOK_LIMIT = 30, IMAGE_LIMIT = 2;
    /** Above every MEAN that there can be. */
    private static final int FAR = 1000000000;

    private final Reading reading = new Reading();
    private final Plan draft = new Plan();
    private final Plan plan = new Plan();
    private final State state = new State();
    private final State firstImage = new State();
    private final State secondImage = new State();
    private final int[] kept = new int[IMAGE_LIMIT];
    private final Rows errands = new Rows(ERRAND_LIMIT);
    private final Rows tells = new Rows(TOLD_LIMIT);
    private final Rows book = new Rows(BOOK_LIMIT);
    private final Shades shades = new Shades(plan, state);
    private final Places places = new Places(shades);
    private final Walks walks = new Walks(shades, errands);
    private final Couples pairing = new Couples(shades);

    public ShadowTax() {
    }

    // ---- the ground

    public int feed(int n, long bytes) {
        if (n < 1 || n > 8) {
            return OUTSIDE;
        }
        if (reading.length + n > TEXT_LIMIT) {
            return FULL;
        }
        reading.append(n, bytes);
        return reading.length;
    }

    public int ground() {
        int fault = reading.readInto(draft);
        if (fault != 0) {
            return -10 - fault;
        }
        plan.copyFrom(draft);
        state.begin(plan);
        shades.darken();
        clearNotes();
        for (int i = 0; i < IMAGE_LIMIT; i++) {
            kept[i] = 0;
        }
        return plan.cells;
    }

    public int fault() {
        return reading.faultPlace;
    }

    public int told(int what) {
        switch (what) {
            case 0: return plan.width;
            case 1: return plan.height;
            case 2: return plan.hours;
            case 3: return plan.persons;
            case 4: return reading.length;
            case 5: return state.rule;
            case 6: return state.treasury;
            case 7: return errands.count;
            case 8: return tells.count;
            case 9: return book.count;
            case 10: return shades.meanOfAll();
            case 11: return plan.greyDays;
            default: return OUTSIDE;
        }
    }

    public int cell(int x, int y, int hour, int what) {
        int c = plan.cellAt(x, y);
        if (c == NONE || !plan.hasHour(hour)) {
            return UNKNOWN;
        }
        switch (what) {
            case 0: return state.house[c];
            case 1: return shades.isDark(c, hour) ? 1 : 0;
            case 2: return shades.castersOn(c, hour);
            case 3: return shades.owerOf(c, hour);
            default: return OUTSIDE;
        }
    }

    public int person(int p, int what) {
        if (!plan.hasPerson(p)) {
            return UNKNOWN;
        }
        switch (what) {
            case 0: return plan.columnOf(state.at[p]);
            case 1: return plan.lineOf(state.at[p]);
            case 2: return shades.tallOf(p);
            case 3: return state.folded[p];
            case 4: return state.purse[p];
            case 5: return shades.meanOf(p);
            case 6: return shades.worstAt(p, state.at[p]);
            default: return OUTSIDE;
        }
    }

    public int owed(int p, int hour) {
        if (!plan.hasPerson(p) || !plan.hasHour(hour)) {
            return UNKNOWN;
        }
        return shades.owedAt(p, state.at[p], hour);
    }

    // ---- what is done

    public int go(int p, int x, int y) {
        int c = plan.cellAt(x, y);
        if (!plan.hasPerson(p) || c == NONE) {
            return UNKNOWN;
        }
        if (state.house[c] > 0) {
            return NOT;
        }
        int before = state.at[p];
        state.at[p] = c;
        return plan.nameOf(before);
    }

    public int fold(int p, boolean is) {
        if (!plan.hasPerson(p)) {
            return UNKNOWN;
        }
        int before = state.folded[p];
        state.folded[p] = is ? 1 : 0;
        return before;
    }

    public int law(int v) {
        if (v < 0 || v > 1) {
            return OUTSIDE;
        }
        int before = state.rule;
        state.rule = v;
        return before;
    }

    public int build(int x, int y, int t) {
        int c = plan.cellAt(x, y);
        if (c == NONE) {
            return UNKNOWN;
        }
        if (t < 0 || t > HEIGHT_LIMIT) {
            return OUTSIDE;
        }
        if (t > 0 && shades.somebodyIsOn(c)) {
            return NOT;
        }
        int before = state.house[c];
        state.house[c] = t;
        shades.darken();
        return before;
    }

    public int day(int n) {
        if (n < 1 || n > DAY_LIMIT) {
            return OUTSIDE;
        }
        if (plan.cells == 0) {
            return NOT;
        }
        for (int i = 0; i < n; i++) {
            payAt(drawHour());
            wander();
        }
        return state.treasury;
    }

    // ---- where to be

    public int best(int p, int what) {
        if (!plan.hasPerson(p)) {
            return UNKNOWN;
        }
        if (what < 0 || what > 1) {
            return OUTSIDE;
        }
        return plan.nameOf(places.bestFor(p, what));
    }

    public int errand(int p, int x, int y, int hour) {
        int c = plan.cellAt(x, y);
        if (!plan.hasPerson(p) || c == NONE || !plan.hasHour(hour)) {
            return UNKNOWN;
        }
        return errands.add(p, c, hour) ? errands.count : FULL;
    }

    public int walk(int p, int hour) {
        if (!plan.hasPerson(p) || (hour != NONE && !plan.hasHour(hour))) {
            return UNKNOWN;
        }
        int mean = walks.leastMean(p);
        if (mean == NONE || hour == NONE) {
            return mean;
        }
        return plan.nameOf(walks.cellAtHour(p, hour));
    }

    public int couple(int p, int q) {
        if (!plan.hasPerson(p) || !plan.hasPerson(q) || p == q) {
            return UNKNOWN;
        }
        return pairing.worthOf(p, q);
    }

    public int couples(int p) {
        if (p != NONE && !plan.hasPerson(p)) {
            return UNKNOWN;
        }
        pairing.weighAll();
        return p == NONE ? pairing.bestSum() : pairing.partnerOf(p);
    }

    public int wall(int x, int y, int t) {
        int c = plan.cellAt(x, y);
        if (c == NONE) {
            return UNKNOWN;
        }
        if (t < 1 || t > HEIGHT_LIMIT) {
            return OUTSIDE;
        }
        if (!places.isFree(c)) {
            return NOT;
        }
        return shades.meanOfAll() - places.meanBehind(c, t, NONE);
    }

    public int bestWall(int t, int p, int what) {
        if (!plan.hasPerson(p)) {
            return UNKNOWN;
        }
        if (t < 1 || t > HEIGHT_LIMIT || what < 0 || what > 1) {
            return OUTSIDE;
        }
        return plan.nameOf(places.bestWallFor(t, what == 1 ? p : NONE));
    }

    public int richest(int what) {
        if (what < 0 || what > 1) {
            return OUTSIDE;
        }
        int hour = shades.richestHour();
        return what == 0 || hour == NONE ? hour : shades.owedByAll(hour);
    }

    // ---- told taxes

    public int tell(int hour, int sum) {
        if (!plan.hasHour(hour)) {
            return UNKNOWN;
        }
        if (sum < 0 || sum > SUM_LIMIT) {
            return OUTSIDE;
        }
        return tells.add(0, hour, sum) ? tells.count : FULL;
    }

    public int stood(int p, int i) {
        if (!plan.hasPerson(p)) {
            return UNKNOWN;
        }
        return i == NONE ? places.countOfStood(p, tells) : plan.nameOf(places.stoodAt(p, tells, i));
    }

    public int write(int hour, int p, int sum) {
        if (!plan.hasHour(hour) || !plan.hasPerson(p)) {
            return UNKNOWN;
        }
        if (sum < 0 || sum > SUM_LIMIT) {
            return OUTSIDE;
        }
        return book.add(p, hour, sum) ? book.count : FULL;
    }

    public int tear() {
        int all = errands.count + tells.count + book.count;
        clearNotes();
        return all;
    }

    public int judge() {
        for (int i = 0; i < book.count; i++) {
            int p = book.first(i);
            int hour = book.second(i);
            if (owed(p, hour) != book.third(i)) {
                return i;
            }
        }
        return NONE;
    }

    public int seed(int v) {
        if (v < 0) {
            return OUTSIDE;
        }
        int before = state.drawn;
        state.drawn = v;
        return before;
    }

    public int keep(int i) {
        if (i < 0 || i >= IMAGE_LIMIT) {
            return UNKNOWN;
        }
        imageOf(i).copyFrom(state);
        kept[i] = 1;
        return 1;
    }

    public int goBack(int i) {
        if (i < 0 || i >= IMAGE_LIMIT) {
            return UNKNOWN;
        }
        if (kept[i] == 0) {
            return NOT;
        }
        state.copyFrom(imageOf(i));
        shades.darken();
        return 1;
    }

    private State imageOf(int i) {
        return i == 0 ? firstImage : secondImage;
    }

    private void clearNotes() {
        errands.clear();
        tells.clear();
        book.clear();
    }

    /** The hour of a day by draws; NONE: it is grey, or nothing is in the hat. */
    private int drawHour() {
        if (state.draw(HUNDRED) < plan.greyDays) {
            return NONE;
        }
        int shares = plan.allShares();
        if (shares == 0) {
            return NONE;
        }
        return plan.hourOfShare(state.draw(shares));
    }

    private void payAt(int hour) {
        if (!plan.hasHour(hour)) {
            return;
        }
        for (int p = 0; p < plan.persons; p++) {
            int sum = shades.owedAt(p, state.at[p], hour);
            state.purse[p] -= sum;
            state.treasury += sum;
        }
    }

    private void wander() {
        for (int p = 0; p < plan.persons; p++) {
            int d = state.draw(9);
            int x = plan.columnOf(state.at[p]) + d % 3 - 1;
            int y = plan.lineOf(state.at[p]) + d / 3 - 1;
            int c = plan.cellAt(x, y);
            if (c != NONE && state.house[c] == 0) {
                state.at[p] = c;
            }
        }
    }

    /** What a text tells of a ground; it stays as it is until another text is read. */
    private static final class Plan {
        int width, height, cells, hours, persons, greyDays;
        /** By hour and cell: the cell one step on by the hour's way; NONE beyond the ground. */
        final int[][] onward = new int[HOUR_LIMIT][CELL_LIMIT];
        final int[] reach = new int[HOUR_LIMIT];
        final int[] share = new int[HOUR_LIMIT];
        final int[] start = new int[PERSON_LIMIT];
        final int[] tall = new int[PERSON_LIMIT];
        final int[] house = new int[CELL_LIMIT];
        /** X and Y of every cell, so that nobody has to divide by the width. */
        final int[] column = new int[CELL_LIMIT];
        final int[] line = new int[CELL_LIMIT];

        void clear() {
            width = 0;
            height = 0;
            cells = 0;
            hours = 0;
            persons = 0;
            greyDays = 0;
            for (int c = 0; c < CELL_LIMIT; c++) {
                house[c] = 0;
            }
        }

        void copyFrom(Plan other) {
            width = other.width;
            height = other.height;
            cells = other.cells;
            hours = other.hours;
            persons = other.persons;
            greyDays = other.greyDays;
            for (int h = 0; h < HOUR_LIMIT; h++) {
                reach[h] = other.reach[h];
                share[h] = other.share[h];
                for (int c = 0; c < CELL_LIMIT; c++) {
                    onward[h][c] = other.onward[h][c];
                }
            }
            for (int p = 0; p < PERSON_LIMIT; p++) {
                start[p] = other.start[p];
                tall[p] = other.tall[p];
            }
            for (int c = 0; c < CELL_LIMIT; c++) {
                house[c] = other.house[c];
                column[c] = other.column[c];
                line[c] = other.line[c];
            }
        }

        void measure(int w, int h) {
            if (w < 1 || h < 1 || w > SIDE_LIMIT || h > SIDE_LIMIT || w * h > CELL_LIMIT) {
                return;
            }
            width = w;
            height = h;
            cells = w * h;
            for (int y = 0; y < h; y++) {
                for (int x = 0; x < w; x++) {
                    column[y * w + x] = x;
                    line[y * w + x] = y;
                }
            }
        }

        void addHouse(int c, int t) {
            if (hasCell(c)) {
                house[c] = t;
            }
        }

        void addHour(int dx, int dy, int cellsForHeight, int shares) {
            if (hours >= HOUR_LIMIT) {
                return;
            }
            for (int c = 0; c < cells; c++) {
                onward[hours][c] = cellAt(column[c] + dx, line[c] + dy);
            }
            reach[hours] = cellsForHeight;
            share[hours] = shares;
            hours++;
        }

        void addPerson(int c, int t) {
            if (persons >= PERSON_LIMIT) {
                return;
            }
            start[persons] = c;
            tall[persons] = t;
            persons++;
        }

        boolean hasCell(int c) {
            return c >= 0 && c < cells;
        }

        boolean hasHour(int h) {
            return h >= 0 && h < hours;
        }

        boolean hasPerson(int p) {
            return p >= 0 && p < persons;
        }

        boolean startsSomebodyOn(int c) {
            for (int p = 0; p < persons; p++) {
                if (start[p] == c) {
                    return true;
                }
            }
            return false;
        }

        /** The number of a cell, Y by Y, X rising; NONE beyond the ground. */
        int cellAt(int x, int y) {
            if (x < 0 || y < 0 || x >= width || y >= height) {
                return NONE;
            }
            return y * width + x;
        }

        int columnOf(int c) {
            return hasCell(c) ? column[c] : NONE;
        }

        int lineOf(int c) {
            return hasCell(c) ? line[c] : NONE;
        }

        /** A cell as the calls answer it; NONE for none. */
        int nameOf(int c) {
            return hasCell(c) ? 10 * column[c] + line[c] : NONE;
        }

        int allShares() {
            int sum = 0;
            for (int h = 0; h < hours; h++) {
                sum += share[h];
            }
            return sum;
        }

        int hourOfShare(int d) {
            int sum = 0;
            for (int h = 0; h < hours; h++) {
                sum += share[h];
                if (sum > d) {
                    return h;
                }
            }
            return NONE;
        }
    }

    /** What calls change and images keep. */
    private static final class State {
        final int[] at = new int[PERSON_LIMIT];
        final int[] folded = new int[PERSON_LIMIT];
        final int[] purse = new int[PERSON_LIMIT];
        final int[] house = new int[CELL_LIMIT];
        int treasury, rule, drawn;

        /** A new ground: the law and the seed stay. */
        void begin(Plan plan) {
            for (int p = 0; p < PERSON_LIMIT; p++) {
                at[p] = plan.start[p];
                folded[p] = 0;
                purse[p] = 0;
            }
            for (int c = 0; c < CELL_LIMIT; c++) {
                house[c] = plan.house[c];
            }
            treasury = 0;
        }

        void copyFrom(State other) {
            for (int p = 0; p < PERSON_LIMIT; p++) {
                at[p] = other.at[p];
                folded[p] = other.folded[p];
                purse[p] = other.purse[p];
            }
            for (int c = 0; c < CELL_LIMIT; c++) {
                house[c] = other.house[c];
            }
            treasury = other.treasury;
            rule = other.rule;
            drawn = other.drawn;
        }

        int draw(int n) {
            if (n < 1) {
                return 0;
            }
            drawn = (int) ((drawn * 1103515245L + 12345L) & 2147483647L);
            return drawn / 65536 % n;
        }
    }

    /** A row of entries of three numbers each, up to a limit. */
    private static final class Rows {
        private final int[] firsts, seconds, thirds;
        int count;

        Rows(int limit) {
            int size = limit < 0 ? 0 : limit;
            firsts = new int[size];
            seconds = new int[size];
            thirds = new int[size];
        }

        boolean add(int first, int second, int third) {
            if (count >= firsts.length) {
                return false;
            }
            firsts[count] = first;
            seconds[count] = second;
            thirds[count] = third;
            count++;
            return true;
        }

        void clear() {
            count = 0;
        }

        int first(int i) {
            return i >= 0 && i < count ? firsts[i] : NONE;
        }

        int second(int i) {
            return i >= 0 && i < count ? seconds[i] : NONE;
        }

        int third(int i) {
            return i >= 0 && i < count ? thirds[i] : NONE;
        }
    }

    /** The text, and how a plan is read from it. After the first fault nothing more is read. */
    private static final class Reading {
        private final byte[] text = new byte[TEXT_LIMIT];
        private int next, faultNumber, numberPlace, houses;
        private boolean greyIsTold;
        int length;
        int faultPlace = NONE;

        void append(int n, long bytes) {
            for (int i = n - 1; i >= 0 && length < TEXT_LIMIT; i--) {
                text[length] = (byte) (bytes >> (8 * i));
                length++;
            }
        }

        /** The number of the fault, 0 for none. */
        int readInto(Plan plan) {
            next = 0;
            faultNumber = 0;
            faultPlace = NONE;
            houses = 0;
            greyIsTold = false;
            plan.clear();
            // Every statement takes a byte at least, or has a fault.
            for (int i = 0; i <= TEXT_LIMIT && faultNumber == 0; i++) {
                skipBlanks();
                if (next >= length) {
                    break;
                }
                readStatement(plan);
            }
            length = 0;
            return faultNumber;
        }

        private void readStatement(Plan plan) {
            int from = next;
            skipLetters();
            if (plan.cells == 0) {
                readGround(plan, from);
            } else if (isWord(from, "house")) {
                readHouse(plan, from);
            } else if (isWord(from, "sun")) {
                readSun(plan, from);
            } else if (isWord(from, "person")) {
                readPerson(plan, from);
            } else if (isWord(from, "grey")) {
                readGrey(plan, from);
            } else {
                fail(isWord(from, "ground") ? 3 : 1, from);
            }
        }

        private void readGround(Plan plan, int from) {
            if (!isWord(from, "ground")) {
                fail(1, from);
            }
            int w = readNumber(1, SIDE_LIMIT);
            int h = readNumber(1, SIDE_LIMIT);
            if (w * h > CELL_LIMIT) {
                fail(2, numberPlace);
            }
            readEnd();
            if (faultNumber == 0) {
                plan.measure(w, h);
            }
        }

        private void readHouse(Plan plan, int from) {
            if (houses >= HOUSE_LIMIT) {
                fail(3, from);
            }
            int c = readCell(plan);
            if (plan.startsSomebodyOn(c)) {
                fail(4, numberPlace);
            }
            int t = readNumber(1, HEIGHT_LIMIT);
            readEnd();
            if (faultNumber == 0) {
                plan.addHouse(c, t);
                houses++;
            }
        }

        private void readSun(Plan plan, int from) {
            if (plan.hours >= HOUR_LIMIT) {
                fail(3, from);
            }
            int dx = readNumber(0, 2) - 1;
            int dy = readNumber(0, 2) - 1;
            if (dx == 0 && dy == 0) {
                fail(4, numberPlace);
            }
            int reach = readNumber(0, REACH_LIMIT);
            int share = readNumber(0, SHARE_LIMIT);
            readEnd();
            if (faultNumber == 0) {
                plan.addHour(dx, dy, reach, share);
            }
        }

        private void readPerson(Plan plan, int from) {
            if (plan.persons >= PERSON_LIMIT) {
                fail(3, from);
            }
            int c = readCell(plan);
            int t = readNumber(1, HEIGHT_LIMIT);
            readEnd();
            if (faultNumber == 0) {
                plan.addPerson(c, t);
            }
        }

        private void readGrey(Plan plan, int from) {
            if (greyIsTold) {
                fail(3, from);
            }
            int q = readNumber(0, HUNDRED);
            readEnd();
            if (faultNumber == 0) {
                plan.greyDays = q;
                greyIsTold = true;
            }
        }

        /** X and Y of a cell without a house. */
        private int readCell(Plan plan) {
            int x = readNumber(0, plan.width - 1);
            int y = readNumber(0, plan.height - 1);
            int c = plan.cellAt(x, y);
            if (plan.hasCell(c) && plan.house[c] > 0) {
                fail(4, numberPlace);
            }
            return c;
        }

        private int readNumber(int least, int most) {
            skipBlanks();
            int from = next;
            int value = 0;
            for (int i = 0; i < TEXT_LIMIT && isFigure(next); i++) {
                if (next - from < 3) {
                    value = 10 * value + text[next] - '0';
                }
                next++;
            }
            numberPlace = from;
            if (next == from) {
                fail(1, from);
            } else if (next - from > 3 || value < least || value > most) {
                fail(2, from);
            }
            return faultNumber == 0 ? value : least;
        }

        private void readEnd() {
            skipBlanks();
            if (next < length && text[next] == ';') {
                next++;
            } else {
                fail(1, next);
            }
        }

        private void skipBlanks() {
            for (int i = 0; i < TEXT_LIMIT && next < length && text[next] == ' '; i++) {
                next++;
            }
        }

        private void skipLetters() {
            for (int i = 0; i < TEXT_LIMIT && next < length && text[next] >= 'a' && text[next] <= 'z'; i++) {
                next++;
            }
        }

        private boolean isFigure(int place) {
            return place >= 0 && place < length && text[place] >= '0' && text[place] <= '9';
        }

        /** Whether the letters from a place on, up to the next byte to be read, are this word. */
        private boolean isWord(int from, String word) {
            if (from < 0 || next - from != word.length()) {
                return false;
            }
            for (int i = 0; i < word.length() && from + i < length; i++) {
                if (text[from + i] != word.charAt(i)) {
                    return false;
                }
            }
            return true;
        }

        /** Only the first fault counts: what comes behind it stands further on. */
        private void fail(int number, int place) {
            if (faultNumber == 0) {
                faultNumber = number;
                faultPlace = place;
            }
        }
    }

    /** Shadows, as sets of cells (bit c for cell c), and what is owed for them. */
    private static final class Shades {
        final Plan plan;
        final State state;
        /** The dark cells of each hour, made anew whenever a house changes. */
        private final long[] dark = new long[HOUR_LIMIT];

        Shades(Plan plan, State state) {
            this.plan = plan;
            this.state = state;
        }

        void darken() {
            for (int h = 0; h < plan.hours; h++) {
                dark[h] = 0;
                for (int c = 0; c < plan.cells; c++) {
                    if (state.house[c] > 0) {
                        dark[h] |= shadowFrom(c, state.house[c], h);
                    }
                }
            }
        }

        boolean isDark(int c, int hour) {
            return plan.hasCell(c) && plan.hasHour(hour) && (dark[hour] >> c & 1) != 0;
        }

        /** None from a dark cell: this hits persons alone, as shadows end ahead of houses. */
        private long shadowFrom(int c, int tall, int hour) {
            if (c < 0 || c >= plan.cells || hour < 0 || hour >= plan.hours || (dark[hour] >> c & 1) != 0) {
                return 0;
            }
            long cells = 0;
            int steps = tall * plan.reach[hour];
            int met = plan.onward[hour][c];
            for (int i = 0; i < steps; i++) {
                if (met < 0 || met >= plan.cells || state.house[met] > 0) {
                    break;
                }
                cells |= 1L << met;
                met = plan.onward[hour][met];
            }
            return cells;
        }

        int tallOf(int p) {
            return p >= 0 && p < plan.persons ? plan.tall[p] - state.folded[p] : 0;
        }

        boolean somebodyIsOn(int c) {
            for (int p = 0; p < plan.persons; p++) {
                if (state.at[p] == c) {
                    return true;
                }
            }
            return false;
        }

        int castersOn(int c, int hour) {
            int set = 0;
            for (int p = 0; p < plan.persons; p++) {
                if ((shadowFrom(state.at[p], tallOf(p), hour) >> c & 1) != 0) {
                    set |= 1 << p;
                }
            }
            return set;
        }

        int owerOf(int c, int hour) {
            for (int p = 0; p < plan.persons; p++) {
                if ((owedCells(p, state.at[p], tallOf(p), NONE, hour) >> c & 1) != 0) {
                    return p;
                }
            }
            return NONE;
        }

        /** Whether q, of one height, owes ahead of p, of another, what lies in the shadows of both. */
        private boolean isAhead(int q, int tallQ, int p, int tallP) {
            if (state.rule == 1 && tallQ != tallP) {
                return tallQ > tallP;
            }
            return q < p;
        }

        /** What p would owe on a cell, so tall, with the others as they are, but for one who has no shadow. */
        private long owedCells(int p, int c, int tall, int absent, int hour) {
            if (!plan.hasHour(hour)) {
                return 0;
            }
            long left = shadowFrom(c, tall, hour) & ~dark[hour];
            for (int q = 0; q < plan.persons && left != 0; q++) {
                int tallQ = tallOf(q);
                if (q != p && q != absent && isAhead(q, tallQ, p, tall)) {
                    left &= ~shadowFrom(state.at[q], tallQ, hour);
                }
            }
            return left;
        }

        int owedAt(int p, int c, int hour) {
            return Long.bitCount(owedCells(p, c, tallOf(p), NONE, hour));
        }

        int meanAt(int p, int c, int tall, int absent) {
            int mean = 0;
            for (int h = 0; h < plan.hours; h++) {
                mean += Long.bitCount(owedCells(p, c, tall, absent, h)) * plan.share[h];
            }
            return mean;
        }

        int meanOf(int p) {
            return plan.hasPerson(p) ? meanAt(p, state.at[p], tallOf(p), NONE) : 0;
        }

        int meanOfAll() {
            int mean = 0;
            for (int p = 0; p < plan.persons; p++) {
                mean += meanAt(p, state.at[p], tallOf(p), NONE);
            }
            return mean;
        }

        int worstAt(int p, int c) {
            int worst = 0;
            for (int h = 0; h < plan.hours; h++) {
                if (plan.share[h] > 0) {
                    worst = Math.max(worst, owedAt(p, c, h));
                }
            }
            return worst;
        }

        int owedByAll(int hour) {
            int sum = 0;
            for (int p = 0; p < plan.persons; p++) {
                sum += owedAt(p, state.at[p], hour);
            }
            return sum;
        }

        int richestHour() {
            int richest = NONE;
            int most = NONE;
            for (int h = 0; h < plan.hours; h++) {
                int sum = owedByAll(h);
                if (sum > most) {
                    most = sum;
                    richest = h;
                }
            }
            return richest;
        }
    }

    /** Cells looked for: where to stand, where to build, where somebody stood. */
    private static final class Places {
        private final Shades shades;
        private final Plan plan;
        private final State state;

        Places(Shades shades) {
            this.shades = shades;
            this.plan = shades.plan;
            this.state = shades.state;
        }

        boolean isFree(int c) {
            return plan.hasCell(c) && state.house[c] == 0 && !shades.somebodyIsOn(c);
        }

        /** The cell by which p's mean (what = 0), or its worst (1), is least. */
        int bestFor(int p, int what) {
            int best = NONE;
            int least = FAR;
            for (int c = 0; c < plan.cells; c++) {
                if (state.house[c] > 0) {
                    continue;
                }
                int sum = what == 0 ? shades.meanAt(p, c, shades.tallOf(p), NONE) : shades.worstAt(p, c);
                if (sum < least) {
                    least = sum;
                    best = c;
                }
            }
            return best;
        }

        /** The mean of p (of all: NONE) if a wall stood on a cell; the wall is gone again then. */
        int meanBehind(int c, int t, int p) {
            if (!plan.hasCell(c)) {
                return 0;
            }
            int before = state.house[c];
            state.house[c] = t;
            shades.darken();
            int mean = p == NONE ? shades.meanOfAll() : shades.meanOf(p);
            state.house[c] = before;
            shades.darken();
            return mean;
        }

        /** The free cell on which a wall leaves the least mean to p, or to all (NONE). */
        int bestWallFor(int t, int p) {
            int best = NONE;
            int least = FAR;
            for (int c = 0; c < plan.cells; c++) {
                if (!isFree(c)) {
                    continue;
                }
                int mean = meanBehind(c, t, p);
                if (mean < least) {
                    least = mean;
                    best = c;
                }
            }
            return best;
        }

        private boolean mayHaveStood(int p, int c, Rows tells) {
            if (!plan.hasCell(c) || state.house[c] > 0) {
                return false;
            }
            for (int i = 0; i < tells.count; i++) {
                if (shades.owedAt(p, c, tells.second(i)) != tells.third(i)) {
                    return false;
                }
            }
            return true;
        }

        int countOfStood(int p, Rows tells) {
            int count = 0;
            for (int c = 0; c < plan.cells; c++) {
                if (mayHaveStood(p, c, tells)) {
                    count++;
                }
            }
            return count;
        }

        int stoodAt(int p, Rows tells, int i) {
            int count = 0;
            for (int c = 0; c < plan.cells; c++) {
                if (mayHaveStood(p, c, tells)) {
                    if (count == i) {
                        return c;
                    }
                    count++;
                }
            }
            return NONE;
        }
    }

    /** The cheapest way of a person through all hours. */
    private static final class Walks {
        private final Shades shades;
        private final Plan plan;
        private final State state;
        private final Rows errands;
        /** What is owed from an hour (row) on, standing on a cell (column) then; FAR: no way. */
        private final int[][] least = new int[HOUR_LIMIT][CELL_LIMIT];

        Walks(Shades shades, Rows errands) {
            this.shades = shades;
            this.plan = shades.plan;
            this.state = shades.state;
            this.errands = errands;
        }

        /** The mean of the walk; NONE: there is no walk. */
        int leastMean(int p) {
            if (!plan.hasPerson(p) || plan.hours == 0) {
                return 0;
            }
            for (int h = plan.hours - 1; h >= 0; h--) {
                for (int c = 0; c < plan.cells; c++) {
                    least[h][c] = leastFrom(p, c, h);
                }
            }
            int here = state.at[p];
            return plan.hasCell(here) && least[0][here] < FAR ? least[0][here] : NONE;
        }

        private int leastFrom(int p, int c, int h) {
            if (!plan.hasHour(h) || !mayBeOn(p, c, h)) {
                return FAR;
            }
            int rest = 0;
            if (h + 1 < plan.hours) {
                int next = bestNext(c, h + 1);
                rest = plan.hasCell(next) ? least[h + 1][next] : FAR;
            }
            return rest == FAR ? FAR : rest + shades.owedAt(p, c, h) * plan.share[h];
        }

        private boolean mayBeOn(int p, int c, int h) {
            if (!plan.hasCell(c) || state.house[c] > 0) {
                return false;
            }
            for (int i = 0; i < errands.count; i++) {
                if (errands.first(i) == p && errands.third(i) == h && errands.second(i) != c) {
                    return false;
                }
            }
            return true;
        }

        /** The first of the cells around c (c too) from which least is owed on; NONE: no way. */
        private int bestNext(int c, int hour) {
            int best = NONE;
            int sum = FAR;
            if (!plan.hasCell(c)) {
                return NONE;
            }
            for (int dy = -1; dy <= 1; dy++) {
                for (int dx = -1; dx <= 1; dx++) {
                    int next = plan.cellAt(plan.columnOf(c) + dx, plan.lineOf(c) + dy);
                    if (plan.hasCell(next) && plan.hasHour(hour) && least[hour][next] < sum) {
                        sum = least[hour][next];
                        best = next;
                    }
                }
            }
            return best;
        }

        /** Where the walk is at an hour; leastMean(p) has been there just before, and found one. */
        int cellAtHour(int p, int hour) {
            int c = plan.hasPerson(p) ? state.at[p] : NONE;
            for (int h = 1; h <= hour && h < plan.hours; h++) {
                c = bestNext(c, h);
            }
            return c;
        }
    }

    /** Who walks with whom: sets of persons, bit p for person p. */
    private static final class Couples {
        private final Shades shades;
        private final Plan plan;
        private final State state;
        private final int[][] worth = new int[PERSON_LIMIT][PERSON_LIMIT];
        /** The greatest sum of worths that a set of persons can have. */
        private final int[] greatest = new int[1 << PERSON_LIMIT];

        Couples(Shades shades) {
            this.shades = shades;
            this.plan = shades.plan;
            this.state = shades.state;
        }

        int worthOf(int p, int q) {
            if (!plan.hasPerson(p) || !plan.hasPerson(q)) {
                return 0;
            }
            int lesser = Math.min(p, q);
            int other = Math.max(p, q);
            int tall = Math.max(shades.tallOf(p), shades.tallOf(q));
            int onOwn = shades.meanAt(lesser, state.at[lesser], tall, other);
            int onOther = shades.meanAt(lesser, state.at[other], tall, other);
            return shades.meanOf(p) + shades.meanOf(q) - Math.min(onOwn, onOther);
        }

        void weighAll() {
            for (int p = 0; p < plan.persons; p++) {
                for (int q = p + 1; q < plan.persons; q++) {
                    worth[p][q] = worthOf(p, q);
                }
            }
            for (int set = 1; set < 1 << plan.persons; set++) {
                int p = lowestOf(set);
                greatest[set] = sumWith(set, p, choice(set, p));
            }
        }

        private int lowestOf(int set) {
            for (int p = 0; p < plan.persons; p++) {
                if ((set >> p & 1) != 0) {
                    return p;
                }
            }
            return NONE;
        }

        private int sumWith(int set, int p, int q) {
            if (!plan.hasPerson(p)) {
                return 0;
            }
            int rest = set & ~(1 << p);
            if (!plan.hasPerson(q)) {
                return greatest[rest];
            }
            return worth[p][q] + greatest[rest & ~(1 << q)];
        }

        /** With whom the lowest of a set walks at best; NONE, and then the lesser ones, come first. */
        private int choice(int set, int p) {
            int best = NONE;
            int most = sumWith(set, p, NONE);
            for (int q = p + 1; q < plan.persons; q++) {
                if ((set >> q & 1) != 0 && sumWith(set, p, q) > most) {
                    most = sumWith(set, p, q);
                    best = q;
                }
            }
            return best;
        }

        int bestSum() {
            return greatest[(1 << plan.persons) - 1];
        }

        int partnerOf(int person) {
            int set = (1 << plan.persons) - 1;
            for (int i = 0; i < plan.persons && set != 0; i++) {
                int p = lowestOf(set);
                int q = choice(set, p);
                if (p == person) {
                    return q;
                }
                if (q == person) {
                    return p;
                }
                set &= ~(1 << p);
                if (plan.hasPerson(q)) {
                    set &= ~(1 << q);
                }
            }
            return NONE;
        }
    }
}
