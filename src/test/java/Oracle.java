import java.util.ArrayList;
import java.util.HashMap;
import java.util.List;
import java.util.Map;

/**
 * A second reading of the document, slow and plain, to compare the program with: it knows no sets of
 * bits, no rows made ahead, no table of cheapest ways; it marks cells, tries every walk, every parting.
 */
final class Oracle {
    static final int NONE = -1, UNKNOWN = -1000000001, OUTSIDE = -1000000002, NOT = -1000000003, FULL = -1000000004;

    private static final class Sun {
        int dx, dy, l, s;
    }

    private static final class Somebody {
        int x, y, t, purse;
        boolean folded;

        int high() {
            return folded ? t - 1 : t;
        }

        Somebody copy() {
            Somebody other = new Somebody();
            other.x = x;
            other.y = y;
            other.t = t;
            other.purse = purse;
            other.folded = folded;
            return other;
        }
    }

    private static final class Image {
        List<Somebody> people = new ArrayList<>();
        int[][] houses;
        int treasury, law;
        long seed;
    }

    private static final class Fault extends Exception {
        private static final long serialVersionUID = 1;
        final int number;
        final int place;

        Fault(int number, int place) {
            this.number = number;
            this.place = place;
        }
    }

    private StringBuilder text = new StringBuilder();
    private int w, h, grey, treasury, law;
    private long seed;
    private int faultPlace = NONE;
    private int[][] houses = new int[0][0];
    private List<Sun> suns = new ArrayList<>();
    private List<Somebody> people = new ArrayList<>();
    private final List<int[]> errands = new ArrayList<>();
    private final List<int[]> tells = new ArrayList<>();
    private final List<int[]> book = new ArrayList<>();
    private final Image[] images = new Image[2];

    // ---- reading

    private String read;
    private int next;

    private void blanks() {
        while (next < read.length() && read.charAt(next) == ' ') {
            next++;
        }
    }

    private int start;

    private int number(int least, int most) throws Fault {
        blanks();
        start = next;
        StringBuilder figures = new StringBuilder();
        while (next < read.length() && "0123456789".indexOf(read.charAt(next)) >= 0) {
            figures.append(read.charAt(next++));
        }
        if (figures.length() == 0) {
            throw new Fault(1, start);
        }
        if (figures.length() >= 4) {
            throw new Fault(2, start);
        }
        int value = Integer.parseInt(figures.toString());
        if (value < least || value > most) {
            throw new Fault(2, start);
        }
        return value;
    }

    private void semicolon() throws Fault {
        blanks();
        if (next >= read.length() || read.charAt(next) != ';') {
            throw new Fault(1, next);
        }
        next++;
    }

    private String word() {
        StringBuilder letters = new StringBuilder();
        while (next < read.length() && "abcdefghijklmnopqrstuvwxyz".indexOf(read.charAt(next)) >= 0) {
            letters.append(read.charAt(next++));
        }
        return letters.toString();
    }

    private Oracle parsed(String whole) throws Fault {
        Oracle made = new Oracle();
        read = whole;
        next = 0;
        blanks();
        if (next == read.length()) {
            return made;
        }
        int at = next;
        if (!word().equals("ground")) {
            throw new Fault(1, at);
        }
        made.w = number(1, 9);
        made.h = number(1, 9);
        if (made.w * made.h > 48) {
            throw new Fault(2, start);
        }
        semicolon();
        made.houses = new int[made.w][made.h];
        Map<String, Integer> counts = new HashMap<>();
        for (blanks(); next < read.length(); blanks()) {
            statement(made, counts);
        }
        return made;
    }

    private void statement(Oracle made, Map<String, Integer> counts) throws Fault {
        int at = next;
        String word = word();
        Integer limit = Map.of("ground", 0, "house", 15, "sun", 6, "person", 6, "grey", 1).get(word);
        if (limit == null) {
            throw new Fault(1, at);
        }
        int count = counts.merge(word, 1, Integer::sum);
        if (count > limit) {
            throw new Fault(3, at);
        }
        switch (word) {
            case "house":
            case "person": {
                Somebody what = new Somebody();
                what.x = number(0, made.w - 1);
                what.y = number(0, made.h - 1);
                int place = start;
                boolean isHouse = word.equals("house");
                boolean taken = made.houses[what.x][what.y] != 0;
                for (Somebody other : made.people) {
                    taken |= isHouse && other.x == what.x && other.y == what.y;
                }
                if (taken) {
                    throw new Fault(4, place);
                }
                what.t = number(1, 9);
                semicolon();
                if (isHouse) {
                    made.houses[what.x][what.y] = what.t;
                } else {
                    made.people.add(what);
                }
                break;
            }
            case "sun": {
                Sun sun = new Sun();
                sun.dx = number(0, 2) - 1;
                sun.dy = number(0, 2) - 1;
                if (sun.dx == 0 && sun.dy == 0) {
                    throw new Fault(4, start);
                }
                sun.l = number(0, 3);
                sun.s = number(0, 20);
                semicolon();
                made.suns.add(sun);
                break;
            }
            default:
                made.grey = number(0, 100);
                semicolon();
        }
    }

    // ---- shadows

    private boolean onGround(int x, int y) {
        return x >= 0 && y >= 0 && x < w && y < h;
    }

    private boolean[][] shadow(int x, int y, int t, Sun sun) {
        boolean[][] marked = new boolean[w][h];
        for (int i = 1; i <= t * sun.l; i++) {
            int sx = x + i * sun.dx;
            int sy = y + i * sun.dy;
            if (!onGround(sx, sy) || houses[sx][sy] > 0) {
                break;
            }
            marked[sx][sy] = true;
        }
        return marked;
    }

    private boolean[][] darkness(Sun sun) {
        boolean[][] dark = new boolean[w][h];
        for (int x = 0; x < w; x++) {
            for (int y = 0; y < h; y++) {
                if (houses[x][y] == 0) {
                    continue;
                }
                boolean[][] one = shadow(x, y, houses[x][y], sun);
                for (int i = 0; i < w * h; i++) {
                    dark[i / h][i % h] |= one[i / h][i % h];
                }
            }
        }
        return dark;
    }

    /** Who owes each cell at an hour: NONE for nobody. */
    private int[][] owers(Sun sun) {
        boolean[][] dark = darkness(sun);
        int[][] ower = new int[w][h];
        for (int[] column : ower) {
            java.util.Arrays.fill(column, NONE);
        }
        for (int p = 0; p < people.size(); p++) {
            Somebody one = people.get(p);
            if (one == null || dark[one.x][one.y]) {
                continue;
            }
            boolean[][] cells = shadow(one.x, one.y, one.high(), sun);
            for (int x = 0; x < w; x++) {
                for (int y = 0; y < h; y++) {
                    if (!cells[x][y] || dark[x][y]) {
                        continue;
                    }
                    int before = ower[x][y];
                    if (before == NONE || law == 1 && people.get(before).high() < one.high()) {
                        ower[x][y] = p;
                    }
                }
            }
        }
        return ower;
    }

    private int owes(int p, Sun sun) {
        int count = 0;
        for (int[] column : owers(sun)) {
            for (int q : column) {
                count += q == p ? 1 : 0;
            }
        }
        return count;
    }

    private int mean(int p) {
        int mean = 0;
        for (Sun sun : suns) {
            mean += owes(p, sun) * sun.s;
        }
        return mean;
    }

    private int meanOfAll() {
        int mean = 0;
        for (int p = 0; p < people.size(); p++) {
            mean += people.get(p) == null ? 0 : mean(p);
        }
        return mean;
    }

    private int worst(int p) {
        int worst = 0;
        for (Sun sun : suns) {
            if (sun.s > 0) {
                worst = Math.max(worst, owes(p, sun));
            }
        }
        return worst;
    }

    private boolean isHour(int hour) {
        return hour >= 0 && hour < suns.size();
    }

    private boolean isPerson(int p) {
        return p >= 0 && p < people.size();
    }

    private boolean somebodyOn(int x, int y) {
        for (Somebody one : people) {
            if (one.x == x && one.y == y) {
                return true;
            }
        }
        return false;
    }

    // ---- the calls

    int feed(int n, long bytes) {
        if (n < 1 || n > 8) {
            return OUTSIDE;
        }
        if (text.length() + n > 500) {
            return FULL;
        }
        for (int i = 8 - n; i < 8; i++) {
            text.append((char) (bytes << 8 * i >>> 56));
        }
        return text.length();
    }

    int ground() {
        String whole = text.toString();
        text = new StringBuilder();
        Oracle made;
        try {
            made = parsed(whole);
        } catch (Fault fault) {
            faultPlace = fault.place;
            return -10 - fault.number;
        }
        faultPlace = NONE;
        w = made.w;
        h = made.h;
        houses = made.houses;
        suns = made.suns;
        people = made.people;
        grey = made.grey;
        treasury = 0;
        tear();
        images[0] = null;
        images[1] = null;
        return w * h;
    }

    int fault() {
        return faultPlace;
    }

    int told(int what) {
        int[] all = {w, h, suns.size(), people.size(), text.length(), law, treasury, errands.size(), tells.size(), book.size(), meanOfAll(), grey};
        return what < 0 || what > 11 ? OUTSIDE : all[what];
    }

    int cell(int x, int y, int hour, int what) {
        if (!onGround(x, y) || !isHour(hour)) {
            return UNKNOWN;
        }
        if (what < 0 || what > 3) {
            return OUTSIDE;
        }
        Sun sun = suns.get(hour);
        boolean[][] dark = darkness(sun);
        int set = 0;
        for (int p = 0; p < people.size(); p++) {
            Somebody one = people.get(p);
            if (!dark[one.x][one.y] && shadow(one.x, one.y, one.high(), sun)[x][y]) {
                set += (int) Math.pow(2, p);
            }
        }
        return new int[] {houses[x][y], dark[x][y] ? 1 : 0, set, owers(sun)[x][y]}[what];
    }

    int person(int p, int what) {
        if (!isPerson(p)) {
            return UNKNOWN;
        }
        if (what < 0 || what > 6) {
            return OUTSIDE;
        }
        Somebody one = people.get(p);
        return new int[] {one.x, one.y, one.high(), one.folded ? 1 : 0, one.purse, mean(p), worst(p)}[what];
    }

    int owed(int p, int hour) {
        return isPerson(p) && isHour(hour) ? owes(p, suns.get(hour)) : UNKNOWN;
    }

    int go(int p, int x, int y) {
        if (!isPerson(p) || !onGround(x, y)) {
            return UNKNOWN;
        }
        if (houses[x][y] > 0) {
            return NOT;
        }
        Somebody one = people.get(p);
        int before = 10 * one.x + one.y;
        one.x = x;
        one.y = y;
        return before;
    }

    int fold(int p, boolean is) {
        if (!isPerson(p)) {
            return UNKNOWN;
        }
        boolean before = people.get(p).folded;
        people.get(p).folded = is;
        return before ? 1 : 0;
    }

    int law(int v) {
        if (v != 0 && v != 1) {
            return OUTSIDE;
        }
        int before = law;
        law = v;
        return before;
    }

    int build(int x, int y, int t) {
        if (!onGround(x, y)) {
            return UNKNOWN;
        }
        if (t < 0 || t > 9) {
            return OUTSIDE;
        }
        if (t > 0 && somebodyOn(x, y)) {
            return NOT;
        }
        int before = houses[x][y];
        houses[x][y] = t;
        return before;
    }

    private int draw(int n) {
        seed = (seed * 1103515245L + 12345L) % (1L << 31);
        return (int) (seed / 65536 % n);
    }

    int day(int n) {
        if (n < 1 || n > 99) {
            return OUTSIDE;
        }
        if (w == 0) {
            return NOT;
        }
        for (int i = 0; i < n; i++) {
            boolean isGrey = draw(100) < grey;
            List<Sun> hat = new ArrayList<>();
            for (Sun sun : suns) {
                for (int s = 0; s < sun.s; s++) {
                    hat.add(sun);
                }
            }
            if (!isGrey && !hat.isEmpty()) {
                Sun sun = hat.get(draw(hat.size()));
                for (int p = 0; p < people.size(); p++) {
                    int sum = owes(p, sun);
                    people.get(p).purse -= sum;
                    treasury += sum;
                }
            }
            for (int p = 0; p < people.size(); p++) {
                int d = draw(9);
                int x = people.get(p).x + new int[] {-1, 0, 1, -1, 0, 1, -1, 0, 1}[d];
                int y = people.get(p).y + new int[] {-1, -1, -1, 0, 0, 0, 1, 1, 1}[d];
                if (onGround(x, y) && houses[x][y] == 0) {
                    people.get(p).x = x;
                    people.get(p).y = y;
                }
            }
        }
        return treasury;
    }

    /** What a person owes on another cell at an hour (NONE: its mean; -2: its worst), back on its own then. */
    private int standing(int p, int x, int y, int hour) {
        Somebody one = people.get(p);
        int oldX = one.x;
        int oldY = one.y;
        one.x = x;
        one.y = y;
        int sum = hour == NONE ? mean(p) : hour == -2 ? worst(p) : owes(p, suns.get(hour));
        one.x = oldX;
        one.y = oldY;
        return sum;
    }

    int best(int p, int what) {
        if (!isPerson(p)) {
            return UNKNOWN;
        }
        if (what != 0 && what != 1) {
            return OUTSIDE;
        }
        int least = Integer.MAX_VALUE;
        int best = NONE;
        for (int y = 0; y < h; y++) {
            for (int x = 0; x < w; x++) {
                int sum = houses[x][y] > 0 ? Integer.MAX_VALUE : standing(p, x, y, what == 0 ? NONE : -2);
                if (sum < least) {
                    least = sum;
                    best = 10 * x + y;
                }
            }
        }
        return best;
    }

    int errand(int p, int x, int y, int hour) {
        if (!isPerson(p) || !onGround(x, y) || !isHour(hour)) {
            return UNKNOWN;
        }
        if (errands.size() == 10) {
            return FULL;
        }
        errands.add(new int[] {p, x, y, hour});
        return errands.size();
    }

    private int walker;
    private int[][][] price;
    private int cheapest;
    private int[] cheapestWay;

    int walk(int p, int hour) {
        if (!isPerson(p) || hour != NONE && !isHour(hour)) {
            return UNKNOWN;
        }
        walker = p;
        price = new int[suns.size()][w][h];
        for (int i = 0; i < suns.size(); i++) {
            for (int x = 0; x < w; x++) {
                for (int y = 0; y < h; y++) {
                    price[i][x][y] = houses[x][y] > 0 ? 0 : standing(p, x, y, i) * suns.get(i).s;
                }
            }
        }
        if (suns.isEmpty()) {
            return 0;
        }
        cheapest = Integer.MAX_VALUE;
        cheapestWay = null;
        stroll(people.get(p).x, people.get(p).y, 0, 0, new int[suns.size()]);
        if (cheapestWay == null) {
            return NONE;
        }
        return hour == NONE ? cheapest : cheapestWay[hour];
    }

    /** Every walk, in the order in which the first of like ones comes first. */
    private void stroll(int x, int y, int hour, int sum, int[] way) {
        if (!onGround(x, y) || houses[x][y] > 0) {
            return;
        }
        for (int[] errand : errands) {
            if (errand[0] == walker && errand[3] == hour && (errand[1] != x || errand[2] != y)) {
                return;
            }
        }
        way[hour] = 10 * x + y;
        int then = sum + price[hour][x][y];
        if (hour + 1 == suns.size()) {
            if (then < cheapest) {
                cheapest = then;
                cheapestWay = way.clone();
            }
            return;
        }
        for (int d = 0; d < 9; d++) {
            stroll(x + d % 3 - 1, y + d / 3 - 1, hour + 1, then, way);
        }
    }

    private int worth(int p, int q) {
        int a = Math.min(p, q);
        int b = Math.max(p, q);
        Somebody first = people.get(a);
        Somebody second = people.get(b);
        int now = mean(a) + mean(b);
        Somebody both = first.copy();
        both.folded = false;
        both.t = Math.max(first.high(), second.high());
        people.set(a, both);
        people.set(b, null);
        int then = mean(a);
        both.x = second.x;
        both.y = second.y;
        then = Math.min(then, mean(a));
        people.set(a, first);
        people.set(b, second);
        return now - then;
    }

    int couple(int p, int q) {
        return isPerson(p) && isPerson(q) && p != q ? worth(p, q) : UNKNOWN;
    }

    private int greatest;
    private int[] greatestParting;
    private int[][] worths;

    int couples(int p) {
        if (p != NONE && !isPerson(p)) {
            return UNKNOWN;
        }
        int n = people.size();
        worths = new int[n][n];
        for (int a = 0; a < n; a++) {
            for (int b = 0; b < n; b++) {
                worths[a][b] = a == b ? 0 : worth(a, b);
            }
        }
        greatest = Integer.MIN_VALUE;
        int[] with = new int[n];
        java.util.Arrays.fill(with, -2);
        part(0, 0, with);
        return p == NONE ? greatest : greatestParting[p];
    }

    /** Every parting, in the order in which the first of like ones comes first. */
    private void part(int p, int sum, int[] with) {
        if (p == with.length) {
            if (sum > greatest) {
                greatest = sum;
                greatestParting = with.clone();
            }
            return;
        }
        if (with[p] != -2) {
            part(p + 1, sum, with);
            return;
        }
        with[p] = NONE;
        part(p + 1, sum, with);
        for (int q = p + 1; q < with.length; q++) {
            if (with[q] == -2) {
                with[p] = q;
                with[q] = p;
                part(p + 1, sum + worths[p][q], with);
                with[q] = -2;
            }
        }
        with[p] = -2;
    }

    int wall(int x, int y, int t) {
        if (!onGround(x, y)) {
            return UNKNOWN;
        }
        if (t < 1 || t > 9) {
            return OUTSIDE;
        }
        if (houses[x][y] > 0 || somebodyOn(x, y)) {
            return NOT;
        }
        int now = meanOfAll();
        houses[x][y] = t;
        int then = meanOfAll();
        houses[x][y] = 0;
        return now - then;
    }

    int bestWall(int t, int p, int what) {
        if (!isPerson(p)) {
            return UNKNOWN;
        }
        if (t < 1 || t > 9 || what < 0 || what > 1) {
            return OUTSIDE;
        }
        int best = NONE;
        int most = Integer.MIN_VALUE;
        for (int y = 0; y < h; y++) {
            for (int x = 0; x < w; x++) {
                if (houses[x][y] > 0 || somebodyOn(x, y)) {
                    continue;
                }
                int gain = wall(x, y, t);
                if (what == 1) {
                    houses[x][y] = t;
                    gain = -mean(p);
                    houses[x][y] = 0;
                }
                if (gain > most) {
                    most = gain;
                    best = 10 * x + y;
                }
            }
        }
        return best;
    }

    int richest(int what) {
        if (what != 0 && what != 1) {
            return OUTSIDE;
        }
        int most = -1;
        int hour = NONE;
        for (int i = 0; i < suns.size(); i++) {
            int sum = 0;
            for (int p = 0; p < people.size(); p++) {
                sum += owes(p, suns.get(i));
            }
            if (sum > most) {
                most = sum;
                hour = i;
            }
        }
        return hour == NONE ? NONE : what == 0 ? hour : most;
    }

    int tell(int hour, int sum) {
        if (!isHour(hour)) {
            return UNKNOWN;
        }
        if (sum < 0 || sum > 99) {
            return OUTSIDE;
        }
        if (tells.size() == 10) {
            return FULL;
        }
        tells.add(new int[] {hour, sum});
        return tells.size();
    }

    int stood(int p, int i) {
        if (!isPerson(p)) {
            return UNKNOWN;
        }
        List<Integer> places = new ArrayList<>();
        for (int y = 0; y < h; y++) {
            for (int x = 0; x < w; x++) {
                boolean may = houses[x][y] == 0;
                for (int[] tell : tells) {
                    may = may && standing(p, x, y, tell[0]) == tell[1];
                }
                if (may) {
                    places.add(10 * x + y);
                }
            }
        }
        return i == NONE ? places.size() : i < 0 || i >= places.size() ? NONE : places.get(i);
    }

    int write(int hour, int p, int sum) {
        if (!isHour(hour) || !isPerson(p)) {
            return UNKNOWN;
        }
        if (sum < 0 || sum > 99) {
            return OUTSIDE;
        }
        if (book.size() == 30) {
            return FULL;
        }
        book.add(new int[] {hour, p, sum});
        return book.size();
    }

    int tear() {
        int all = errands.size() + tells.size() + book.size();
        errands.clear();
        tells.clear();
        book.clear();
        return all;
    }

    int judge() {
        int i = 0;
        for (int[] entry : book) {
            if (owes(entry[1], suns.get(entry[0])) != entry[2]) {
                return i;
            }
            i++;
        }
        return NONE;
    }

    int seed(int v) {
        if (v < 0) {
            return OUTSIDE;
        }
        int before = (int) seed;
        seed = v;
        return before;
    }

    private static int[][] copyOf(int[][] grid) {
        int[][] copy = new int[grid.length][];
        for (int x = 0; x < grid.length; x++) {
            copy[x] = grid[x].clone();
        }
        return copy;
    }

    int keep(int i) {
        if (i != 0 && i != 1) {
            return UNKNOWN;
        }
        Image image = new Image();
        for (Somebody one : people) {
            image.people.add(one.copy());
        }
        image.houses = copyOf(houses);
        image.treasury = treasury;
        image.law = law;
        image.seed = seed;
        images[i] = image;
        return 1;
    }

    int goBack(int i) {
        if (i != 0 && i != 1) {
            return UNKNOWN;
        }
        Image image = images[i];
        if (image == null) {
            return NOT;
        }
        people = new ArrayList<>();
        for (Somebody one : image.people) {
            people.add(one.copy());
        }
        houses = copyOf(image.houses);
        treasury = image.treasury;
        law = image.law;
        seed = image.seed;
        return 1;
    }
}
