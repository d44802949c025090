/** The edges of boxes and windows: the description's part 3, and promises 18 to 21. */
public final class WindowEdgesTest {
    private static final Class<?> ARGUMENT = IllegalArgumentException.class;
    private static final String[] NAMES = {"runs", "cut", "search", "asOf", "soon", "rivalReads"};

    public static void main(String[] args) {
        boxes();
        boxesOfTheLeastPlane();
        placesOfABox();
        gaps();
        cutForMore();
        cutTheSmallest();
        cutOfSeveralTheFirst();
        cutOfManyRuns();
        falseKeys();
        pagesRead();
        pagesOnce();
        searches();
        asOfAVersion();
        cutFacts();
        cutRefused();
        searchReturns();
        searchRefused();
        asOfReturns();
        asOfRefused();
        soonReturns();
        soonRefused();
        Due.end();
    }

    /** Each call that asks for a box, with all else allowed. */
    private static long ask(CurvekeyHouse house, int call, int x, int y, int wide, int high) {
        switch (call) {
            case 0:
                return house.runs(5, x, y, wide, high);
            case 1:
                return house.cut(x, y, wide, high, 99, 3);
            case 2:
                return house.search(x, y, wide, high, 1);
            case 3:
                return house.asOf(x, y, wide, high, 0);
            case 4:
                return house.soon(x, y, wide, high, 40);
            default:
                return house.rivalReads(x, y, wide, high);
        }
    }

    private static void boxes() {
        Due.says(0, "A BOX is x, y, WIDE and HIGH (1 or more each): the PLACES from x to x + WIDE - 1 "
            + "and from y to y + HIGH - 1, all of them on the plane.");
        for (int call = 0; call < NAMES.length; call++) {
            int c = call;
            String name = NAMES[call];
            Due.ranges(0, 7, ARGUMENT, name + " at x", Stores::busy, (h, x) -> ask(h, c, x, 0, 1, 1));
            Due.ranges(0, 7, ARGUMENT, name + " at y", Stores::busy, (h, y) -> ask(h, c, 0, y, 1, 1));
            Due.ranges(1, 8, ARGUMENT, name + " of wide", Stores::busy, (h, wide) -> ask(h, c, 0, 0, wide, 8));
            Due.ranges(1, 8, ARGUMENT, name + " of high", Stores::busy, (h, high) -> ask(h, c, 0, 0, 8, high));
            Due.ranges(1, 5, ARGUMENT, name + " of wide at 3", Stores::busy, (h, wide) -> ask(h, c, 3, 0, wide, 1));
            Due.ranges(1, 5, ARGUMENT, name + " of high at 3", Stores::busy, (h, high) -> ask(h, c, 0, 3, 1, high));
            Due.ranges(1, 1, ARGUMENT, name + " of wide at 7", Stores::busy, (h, wide) -> ask(h, c, 7, 0, wide, 1));
            Due.ranges(1, 1, ARGUMENT, name + " of high at 7", Stores::busy, (h, high) -> ask(h, c, 0, 7, 1, high));
            int[][] wrong = {{-1, 0, 2, 1}, {0, -1, 1, 2}, {-1, 0, 9, 1}, {8, 0, 0, 1}, {0, 8, 1, 0}, {9, 0, -1, 1},
                {0, 9, 1, -1}, {Integer.MAX_VALUE, 0, Integer.MAX_VALUE, 1}, {0, Integer.MAX_VALUE, 1, 2},
                {Integer.MIN_VALUE, 0, Integer.MIN_VALUE, 1}, {7, 7, 2, 2}};
            for (int[] w : wrong) {
                Due.refuses(ARGUMENT, name + " of " + w[0] + " " + w[1] + " " + w[2] + " " + w[3], Stores::busy,
                    h -> ask(h, c, w[0], w[1], w[2], w[3]));
            }
        }
    }

    private static void boxesOfTheLeastPlane() {
        Due.says(0, "all of them on the plane");
        for (int call = 0; call < NAMES.length; call++) {
            int c = call;
            String name = NAMES[call] + " on the side ";
            for (int order : new int[] {1, 5}) {
                int side = 1 << order;
                Picture.Store store = () -> Stores.empty(order, 5, 2);
                Due.ranges(1, side, ARGUMENT, name + side + " of wide", store, (h, wide) -> ask(h, c, 0, 0, wide, 1));
                Due.ranges(1, side, ARGUMENT, name + side + " of high", store, (h, high) -> ask(h, c, 0, 0, 1, high));
                Due.ranges(0, side - 1, ARGUMENT, name + side + " at x", store, (h, x) -> ask(h, c, x, 0, 1, side));
                Due.ranges(0, side - 1, ARGUMENT, name + side + " at y", store, (h, y) -> ask(h, c, 0, y, side, 1));
            }
        }
    }

    private static void placesOfABox() {
        Due.says(0, "the PLACES from x to x + WIDE - 1 and from y to y + HIGH - 1");
        for (int y = 0; y < 8; y++) {
            for (int x = 0; x < 8; x++) {
                CurvekeyHouse house = Stores.rows(3, 2, 8 * y + x);
                int within = x >= 2 && x <= 5 && y >= 3 && y <= 4 ? 1 : 0;
                String at = " of a point at " + x + " " + y;
                Due.is(within, "search" + at, () -> house.search(2, 3, 4, 2, 1));
                Due.is(within, "asOf" + at, () -> house.asOf(2, 3, 4, 2, 1));
                Due.is(within, "soon" + at, () -> house.soon(2, 3, 4, 2, 0));
            }
        }
    }

    private static void gaps() {
        Due.says(0, "A GAP is what is between two RUNS next to each other.");
        // 1, 14, 17, 30, 33, 46, 49, 62: 14 and 17 have 15 and 16 between them
        CurvekeyHouse house = Stores.empty(3, 1, 2);
        Due.is(12, "from 1 to 14", () -> house.cut(1, 0, 1, 2, 1, 1));
        Due.is(2, "from 14 to 17", () -> house.cut(1, 1, 1, 2, 1, 1));
        Due.is(1, "from 6 to 8, a gap of one key", () -> Stores.empty(3, 0, 2).cut(0, 0, 7, 2, 1, 1));
    }

    /** A column of the snake on the side 8: keys 1, 14, 17, 30, 33, 46, 49, 62, with gaps 12, 2, 12, 2, 12, 2, 12. */
    private static void column(String what, int most, int runs, int falseKeys, int lastBegin) {
        CurvekeyHouse house = Stores.empty(3, 1, 2);
        Due.is(runs, what + ": RUNS for " + most, () -> house.cut(1, 0, 1, 8, most, 0));
        Due.is(falseKeys, what + ": FALSE KEYS for " + most, () -> house.cut(1, 0, 1, 8, most, 1));
        Due.is(lastBegin, what + ": begin of the last for " + most, () -> house.cut(1, 0, 1, 8, most, 3));
    }

    private static void cutForMore() {
        Due.says(0, "To CUT a BOX for at most m RUNS (by the CURVE of the STORE): as long as there are more than m RUNS");
        column("more than there are", 99, 8, 0, 62);
        column("one more than there are", 9, 8, 0, 62);
        column("as many as there are", 8, 8, 0, 62);
        column("one fewer than there are", 7, 7, 2, 62);
        column("one", 1, 1, 54, 1);
        CurvekeyHouse house = Stores.empty(3, 5, 2);
        Due.is(1, "one run cannot be cut", () -> house.cut(0, 0, 8, 8, 1, 0));
        Due.is(0, "the whole plane has no false key", () -> house.cut(0, 0, 8, 8, 1, 1));
        Due.is(0, "one place has none", () -> house.cut(7, 7, 1, 1, 1, 1));
        Due.is(63, "its run", () -> house.cut(7, 7, 1, 1, 1, 3));
        Due.is(2, "by the curve of the store: 3 and 6", () -> Stores.empty(3, 2, 2).cut(1, 1, 2, 1, 9, 0));
        Due.is(1, "by the curve of the store: 9 and 10", () -> Stores.empty(3, 0, 2).cut(1, 1, 2, 1, 9, 0));
    }

    private static void cutTheSmallest() {
        Due.says(0, "the two with the smallest GAP between them become one, with the GAP (of several the first one).");
        column("the first gap of 2", 7, 7, 2, 62);
        column("the next gap of 2", 6, 6, 4, 62);
        column("the last gap of 2", 5, 5, 6, 62);
        column("then the first gap of 12", 4, 4, 18, 62);
        column("and the next one", 3, 3, 30, 62);
        column("and the next one", 2, 2, 42, 62);
        CurvekeyHouse house = Stores.empty(3, 1, 2);
        Due.is(14, "the last gap is the smallest: the last run begins ahead of it", () -> house.cut(1, 0, 1, 3, 2, 3));
        Due.is(30, "the first gap is the smallest: the last run stays", () -> house.cut(1, 1, 1, 3, 2, 3));
    }

    private static void cutOfSeveralTheFirst() {
        Due.says(0, "with the GAP (of several the first one)");
        CurvekeyHouse house = Stores.empty(3, 0, 2);
        // 0, 8, 16, 24: gaps of 7; pages show which are joined
        for (int most = 1; most <= 4; most++) {
            int m = most;
            Due.is(m == 1 ? 0 : 24, "the last run for " + m, () -> house.cut(0, 0, 1, 4, m, 3));
            Due.is(7 * (4 - m), "FALSE KEYS for " + m, () -> house.cut(0, 0, 1, 4, m, 1));
        }
        CurvekeyHouse first = Stores.rows(3, 2, 2, 3, 4, 5);
        Due.is(3, "pages from 0, 3 and 4", () -> first.many(5));
        Due.is(2, "0, 8 and 16 are of two pages", () -> first.cut(0, 0, 1, 3, 3, 2));
        Due.is(3, "0 to 8, and 16: the first gap has a page of its own", () -> first.cut(0, 0, 1, 3, 2, 2));
        CurvekeyHouse second = Stores.rows(3, 2, 10, 11, 12, 13);
        Due.is(3, "pages from 0, 11 and 12", () -> second.many(5));
        Due.is(2, "0 to 8, and 16: the second gap is not read", () -> second.cut(0, 0, 1, 3, 2, 2));
        Due.is(3, "0 to 16", () -> second.cut(0, 0, 1, 3, 1, 2));
    }

    private static void cutOfManyRuns() {
        Due.says(0, "as long as there are more than m RUNS, the two with the smallest GAP between them become one");
        CurvekeyHouse house = new CurvekeyHouse();
        house.design(21, 14, 7, 30);
        house.found(5, 5, 2);
        Due.is(120, "RUNS", () -> house.runs(5, 1, 3, 30, 26));
        Due.is(99, "of 120 for 99", () -> house.cut(1, 3, 30, 26, 99, 0));
        Due.is(98, "of 120 for 98", () -> house.cut(1, 3, 30, 26, 98, 0));
        // 75 gaps of 1 key, 13 of 2, 22 of 4, 4 of 5, 2 of 6, 2 of 7, one of 9
        int[][] due = {{99, 21}, {98, 22}, {45, 75}, {44, 77}, {32, 101}, {31, 105}, {2, 235}, {1, 244}};
        for (int[] d : due) {
            Due.is(d[1], "FALSE KEYS for " + d[0], () -> house.cut(1, 3, 30, 26, d[0], 1));
        }
        Due.is(0, "from the first key on", () -> house.cut(1, 3, 30, 26, 1, 3));
    }

    private static void falseKeys() {
        Due.says(0, "FALSE KEYS are those of the BOX's RUNS then that are not of the BOX.");
        CurvekeyHouse house = Stores.rows(3, 4, 0, 7, 8);
        Due.is(0, "0 to 2, and 8 to 10", () -> house.cut(0, 0, 3, 2, 2, 1));
        Due.is(5, "3 to 7", () -> house.cut(0, 0, 3, 2, 1, 1));
        Due.is(2, "a point at a false key is not found", () -> house.search(0, 0, 3, 2, 1));
        Due.is(56, "0 to 63 but a column", () -> Stores.empty(3, 4, 2).cut(0, 0, 1, 8, 1, 1));
    }

    private static void pagesRead() {
        Due.says(0, "A PAGE is READ, if one of the RUNS has a KEY from its FLOOR up to ahead of the FLOOR of the next "
            + "PAGE.");
        CurvekeyHouse house = Stores.rows(3, 2, 8, 9, 10, 11);
        Due.is(3, "pages from 0, 9 and 10", () -> house.many(5));
        int[][] due = {{0, 1, 1, 1, 1}, {1, 1, 1, 1, 1}, {2, 1, 1, 1, 1}, {0, 1, 2, 1, 2}, {1, 1, 2, 1, 2}, {0, 1, 3, 1, 3},
            {2, 1, 6, 1, 1}, {0, 0, 8, 1, 1}, {0, 0, 8, 2, 3}, {7, 7, 1, 1, 1}, {0, 0, 8, 8, 3}, {0, 2, 8, 6, 1}};
        for (int[] d : due) {
            Due.is(d[4], "READ for " + d[0] + " " + d[1] + " " + d[2] + " " + d[3],
                () -> house.cut(d[0], d[1], d[2], d[3], 99, 2));
        }
        for (int point = 0; point < 4; point++) {
            house.remove(point);
        }
        Due.is(3, "pages of tombs are read too", () -> house.cut(0, 0, 8, 2, 99, 2));
        Due.is(1, "the only page of an empty store is read", () -> new CurvekeyHouse().cut(3, 3, 1, 1, 1, 2));
        CurvekeyHouse swept = Stores.rows(3, 2, 10, 20, 30);
        swept.remove(0);
        swept.sweep();
        Due.is(1, "a page without an entry is read", () -> swept.cut(0, 0, 1, 1, 1, 2));
        Due.is(1, "up to ahead of the next floor", () -> swept.cut(0, 0, 4, 3, 1, 2));
        Due.is(2, "not up to the next floor itself", () -> swept.cut(0, 0, 5, 3, 1, 2));
    }

    private static void pagesOnce() {
        Due.says(0, "To SEARCH a BOX so: PAGES that are READ are counted (each once for a SEARCH), and SEARCHES.");
        CurvekeyHouse house = Stores.rows(3, 2, 8, 9, 10, 11);
        Due.is(1, "eight runs in rows 2 to 7 of the last page", () -> {
            house.search(3, 2, 2, 6, 99);
            return house.many(9);
        });
        house.search(3, 2, 2, 6, 99);
        Due.is(2, "once more by another search", () -> house.many(9));
        house.search(0, 0, 1, 8, 99);
        Due.is(4, "two pages by eight runs", () -> house.many(9));
        house.search(0, 0, 1, 8, 1);
        Due.is(7, "three pages by one run", () -> house.many(9));
        Due.is(4, "SEARCHES", () -> house.many(10));
    }

    private static void searches() {
        Due.says(0, "What is asked changes nothing, but SEARCHES.");
        CurvekeyHouse searched = Stores.busy();
        searched.search(0, 0, 8, 8, 1);
        CurvekeyHouse plain = Stores.busy();
        Due.is(plain.many(9) + plain.many(5), "PAGES READ", () -> searched.many(9));
        Due.is(plain.many(10) + 1, "SEARCHES", () -> searched.many(10));
        for (int what = 0; what < 16; what++) {
            int w = what;
            Due.is(plain.many(w) + (w == 9 ? plain.many(5) : 0) + (w == 10 ? 1 : 0), "many(" + w + ")",
                () -> searched.many(w));
        }
        Due.alike("founded behind a search, or without it", () -> {
            CurvekeyHouse house = Stores.busy();
            house.search(0, 0, 8, 8, 1);
            house.found(3, 5, 2);
            return house;
        }, () -> {
            CurvekeyHouse house = Stores.busy();
            house.found(3, 5, 2);
            return house;
        });
    }

    private static void asOfAVersion() {
        Due.says(0, "AS OF a VERSION: POINTS by the SPELL in which they were then.");
        CurvekeyHouse house = Stores.rows(2, 2, 0, 1);
        house.move(0, 2, 0);
        house.move(1, 0, 0);
        house.remove(0);
        // 0 at 0, 1 at 1; 0 at 2; 1 at 0; 0 gone
        int[][] due = {{0, 0, 0}, {1, 0, 0}, {1, 1, 0}, {0, 1, 1}, {1, 0, 1}, {1, 0, 0}};
        for (int version = 0; version <= 5; version++) {
            for (int x = 0; x < 3; x++) {
                int v = version;
                int c = x;
                Due.is(due[v][c], "at " + c + " 0 as of " + v, () -> house.asOf(c, 0, 1, 1, v));
            }
        }
        house.sweep();
        Due.is(2, "a sweep takes nothing from what was", () -> house.asOf(0, 0, 4, 4, 4));
    }

    private static void cutFacts() {
        Due.says(18, "- `what`: 0 RUNS as it is CUT, 1 FALSE KEYS, 2 PAGES that would be READ, "
            + "3 the KEY with which the last of these RUNS begins");
        CurvekeyHouse house = Stores.rows(3, 2, 8, 9, 10, 11);
        int[][] due = {{8, 8, 0, 2, 56}, {7, 7, 7, 2, 56}, {2, 2, 42, 3, 56}, {1, 1, 49, 3, 0}, {99, 8, 0, 2, 56}};
        for (int[] d : due) {
            for (int what = 0; what < 4; what++) {
                int w = what;
                Due.is(d[w + 1], "cut(0, 0, 1, 8, " + d[0] + ", " + w + ")", () -> house.cut(0, 0, 1, 8, d[0], w));
            }
        }
        Due.says(18, "Returns that (by the CURVE of the STORE; nothing is counted).");
        for (int what = 0; what < 4; what++) {
            int w = what;
            Due.changesNothing("cut of " + w, Stores::busy, h -> h.cut(0, 0, 8, 8, 2, w));
        }
        Due.is(2, "1 and 14 by the snake", () -> Stores.empty(3, 1, 2).cut(1, 0, 1, 2, 9, 0));
        Due.is(1, "0 and 1 by the curve 3", () -> Stores.empty(3, 3, 2).cut(0, 0, 1, 2, 9, 0));
    }

    private static void cutRefused() {
        Due.says(18, "Throws `IllegalArgumentException` if it is no BOX on the plane, most is not 1 to 99, "
            + "or what not 0 to 3");
        Due.ranges(1, 99, ARGUMENT, "cut for most", Stores::busy, (h, most) -> h.cut(0, 0, 8, 8, most, 0));
        Due.ranges(0, 3, ARGUMENT, "cut of what", Stores::busy, (h, what) -> h.cut(0, 0, 8, 8, 1, what));
        Due.ranges(1, 99, ARGUMENT, "cut for most", CurvekeyHouse::new, (h, most) -> h.cut(7, 7, 1, 1, most, 3));
        Due.ranges(1, 4, ARGUMENT, "cut of wide at 4", Stores::busy, (h, wide) -> h.cut(4, 4, wide, 1, 1, 0));
        Due.ranges(1, 4, ARGUMENT, "cut of high at 4", Stores::busy, (h, high) -> h.cut(4, 4, 1, high, 1, 0));
    }

    private static void searchReturns() {
        Due.says(19, "Returns how many POINTS LIVE in it.");
        Due.is(0, "an empty store", () -> new CurvekeyHouse().search(0, 0, 8, 8, 1));
        Due.is(80, "a full store", () -> Stores.full().search(0, 0, 16, 16, 1));
        Due.is(80, "just where they are", () -> Stores.full().search(0, 0, 16, 5, 99));
        Due.is(0, "just beside", () -> Stores.full().search(0, 5, 16, 11, 99));
        Due.is(4, "a full plane", () -> Stores.crowded().search(0, 0, 2, 2, 1));
        CurvekeyHouse house = Stores.oneGone();
        Due.is(0, "one that is gone", () -> house.search(1, 0, 1, 1, 1));
        Due.is(2, "those that live", () -> house.search(0, 0, 3, 1, 1));
        CurvekeyHouse mover = Stores.rows(3, 2, 27);
        mover.speed(0, 1, 1);
        Due.is(1, "where it is", () -> mover.search(3, 3, 1, 1, 1));
        Due.is(0, "not where it will be", () -> mover.search(4, 4, 1, 1, 1));
        Due.is(1, "the last place", () -> Stores.oneMoved().search(3, 3, 1, 1, 99));
        Due.is(0, "where it was", () -> Stores.oneMoved().search(1, 0, 1, 1, 99));
    }

    private static void searchRefused() {
        Due.says(19, "Throws `IllegalArgumentException` if it is no BOX on the plane, or most is not 1 to 99");
        Due.ranges(1, 99, ARGUMENT, "search for most", Stores::busy, (h, most) -> h.search(0, 0, 8, 8, most));
        Due.ranges(1, 99, ARGUMENT, "search for most", Stores::full, (h, most) -> h.search(15, 15, 1, 1, most));
        Due.ranges(1, 4, ARGUMENT, "search of wide at 4", Stores::busy, (h, wide) -> h.search(4, 4, wide, 1, 1));
        Due.ranges(1, 4, ARGUMENT, "search of high at 4", Stores::busy, (h, high) -> h.search(4, 4, 1, high, 1));
    }

    private static void asOfReturns() {
        Due.says(20, "Returns how many POINTS were in it AS OF that.");
        Due.is(0, "an empty store", () -> new CurvekeyHouse().asOf(0, 0, 8, 8, 0));
        CurvekeyHouse house = Stores.full();
        for (int version = 0; version <= 80; version++) {
            int v = version;
            Due.is(v, "all as of " + v, () -> house.asOf(0, 0, 16, 16, v));
            Due.is(v > 79 ? 1 : 0, "the 80th as of " + v, () -> house.asOf(15, 4, 1, 1, v));
            Due.is(v > 0 ? 1 : 0, "the first as of " + v, () -> house.asOf(0, 0, 1, 1, v));
        }
    }

    private static void asOfRefused() {
        Due.says(20, "Throws `IllegalArgumentException` if it is no BOX on the plane, or version is not 0 to VERSION");
        Due.ranges(0, 18, ARGUMENT, "asOf the version", Stores::busy, (h, version) -> h.asOf(0, 0, 8, 8, version));
        Due.ranges(0, 0, ARGUMENT, "asOf the version", CurvekeyHouse::new, (h, version) -> h.asOf(0, 0, 8, 8, version));
        Due.ranges(0, 80, ARGUMENT, "asOf the version", Stores::full, (h, version) -> h.asOf(0, 0, 1, 1, version));
        Due.ranges(1, 4, ARGUMENT, "asOf of wide at 4", Stores::busy, (h, wide) -> h.asOf(4, 4, wide, 1, 0));
        Due.ranges(1, 4, ARGUMENT, "asOf of high at 4", Stores::busy, (h, high) -> h.asOf(4, 4, 1, high, 0));
    }

    private static void soonReturns() {
        Due.says(21, "Returns how many POINTS that LIVE would be in it SOON.");
        Due.is(0, "an empty store", () -> new CurvekeyHouse().soon(0, 0, 8, 8, 40));
        Due.is(80, "a full store", () -> Stores.full().soon(0, 0, 16, 5, 40));
        CurvekeyHouse house = Stores.rows(5, 2, 0, 1023);
        house.speed(0, 1, 3);
        house.speed(1, -3, -1);
        int[][] due = {{0, 0, 0, 31, 31}, {1, 1, 3, 28, 30}, {10, 10, 30, 1, 21}, {11, 11, 31, 0, 20}, {30, 30, 31, 0, 1},
            {31, 31, 31, 0, 0}, {32, 31, 31, 0, 0}, {40, 31, 31, 0, 0}};
        for (int[] d : due) {
            Due.is(1, "the first in " + d[0], () -> house.soon(d[1], d[2], 1, 1, d[0]));
            Due.is(1, "the second in " + d[0], () -> house.soon(d[3], d[4], 1, 1, d[0]));
            Due.is(2, "both in " + d[0], () -> house.soon(0, 0, 32, 32, d[0]));
        }
        house.remove(0);
        Due.is(1, "one that is gone is nowhere", () -> house.soon(0, 0, 32, 32, 5));
    }

    private static void soonRefused() {
        Due.says(21, "Throws `IllegalArgumentException` if it is no BOX on the plane, or ticks is not 0 to 40");
        Due.ranges(0, 40, ARGUMENT, "soon in ticks", Stores::busy, (h, ticks) -> h.soon(0, 0, 8, 8, ticks));
        Due.ranges(0, 40, ARGUMENT, "soon in ticks", CurvekeyHouse::new, (h, ticks) -> h.soon(7, 7, 1, 1, ticks));
        Due.ranges(1, 4, ARGUMENT, "soon of wide at 4", Stores::busy, (h, wide) -> h.soon(4, 4, wide, 1, 0));
        Due.ranges(1, 4, ARGUMENT, "soon of high at 4", Stores::busy, (h, high) -> h.soon(4, 4, 1, high, 0));
    }
}
