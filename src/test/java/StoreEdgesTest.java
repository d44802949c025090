/** The edges of points, pages and versions: the description's part 2, and promises 9 to 17. */
public final class StoreEdgesTest {
    private static final Class<?> ARGUMENT = IllegalArgumentException.class;
    private static final Class<?> STATE = IllegalStateException.class;
    private static final Class<?> INDEX = IndexOutOfBoundsException.class;

    public static void main(String[] args) {
        lastCall();
        rowOfASeed();
        eightyPoints();
        oneForAPlace();
        versions();
        spells();
        curveAndCapacityOfTheStore();
        onePageAtFirst();
        floors();
        tombIsTaken();
        splits();
        splitsOfTombs();
        splitInTheMiddle();
        takenOut();
        sweepJoins();
        sweepJoinsTheFirstTwo();
        sweepLeavesFloors();
        foundForgets();
        foundReturns();
        foundRefused();
        putReturns();
        putRefused();
        bulkPuts();
        bulkReturns();
        bulkRefused();
        moveReturns();
        moveRefused();
        removeReturns();
        removeRefused();
        sweepReturns();
        pointFacts();
        pointRefused();
        pageFacts();
        pageRefused();
        manyFacts();
        manyRefused();
        Due.end();
    }

    /** Each page: its floor, entries, tombs, first and last key. */
    private static String pagesOf(CurvekeyHouse house) {
        StringBuilder text = new StringBuilder();
        for (int page = 0; page < house.many(5); page++) {
            text.append(page == 0 ? "" : " | ").append(house.ofPage(page, 0));
            for (int what = 1; what < 5; what++) {
                text.append(' ').append(house.ofPage(page, what));
            }
        }
        return text.toString();
    }

    private static void lastCall() {
        Due.says(0, "An object is used for at most 512 calls after it has been made; what later calls answer is free.");
        CurvekeyHouse house = Stores.empty(5, 0, 8);
        for (int number = 0; number < 80; number++) {
            house.put(number % 32, 2 - number / 32);
            house.speed(number, 0, 1);
        }
        Due.is(320, "four ticks", () -> house.tick(4));
        Due.is(720, "nine more behind 400 spells", () -> house.tick(9));
        // 163 calls so far, one is asked: 348 moves, and at last a question
        for (int time = 0; time < 348; time++) {
            int t = time;
            Due.is(t % 32 + (t / 32 % 2) * 32, "a move", () -> house.move(79, t % 32, t / 32 % 2));
        }
        Due.is(80, "of the most spells that can be, all points by those of now",
            () -> house.asOf(0, 0, 32, 32, 80 + 320 + 720 + 348));
    }

    private static void rowOfASeed() {
        Due.says(0, "A seed's ROW: the first number is (37 * seed + 11) modulo 113, "
            + "each later one (37 * the one ahead + 11) modulo 113.");
        // 0: 11, 79; 2: 85, 105; 3: 122 is 9, 344 is 5; 73: 2712 is 0, 11; 18: 677 is 112, 4155 is 87; 99: 58, 10
        int[][] due = {{0, 11, 79}, {2, 85, 105}, {3, 9, 5}, {73, 0, 11}, {18, 112, 87}, {99, 58, 10}};
        for (int[] d : due) {
            CurvekeyHouse house = Stores.empty(5, 0, 8);
            house.bulk(1, d[0]);
            Due.is(d[1] % 32, "first number of " + d[0], () -> house.ofPoint(0, 0));
            Due.is(d[2] % 32, "second number of " + d[0], () -> house.ofPoint(0, 1));
        }
        CurvekeyHouse house = Stores.empty(5, 0, 8);
        house.bulk(3, 99);
        // 58, 10, 381 is 42, 1565 is 96, 3563 is 60, 2231 is 84
        Due.is(42 % 32, "third number", () -> house.ofPoint(1, 0));
        Due.is(96 % 32, "fourth number", () -> house.ofPoint(1, 1));
        Due.is(60 % 32, "fifth number", () -> house.ofPoint(2, 0));
        Due.is(84 % 32, "sixth number", () -> house.ofPoint(2, 1));
    }

    private static void eightyPoints() {
        Due.says(0, "POINTS: at most 80 ever, numbered from 0 as they are put; a PLACE has one that LIVES at most.");
        CurvekeyHouse house = Stores.empty(4, 0, 8);
        for (int number = 0; number < 80; number++) {
            int n = number;
            Due.is(n, "number", () -> house.put(n % 16, n / 16));
            if (number % 3 == 0) {
                house.remove(number);
            }
        }
        Due.is(80, "POINTS ever", () -> house.many(3));
        Due.is(53, "POINTS that LIVE", () -> house.many(4));
        Due.refuses(STATE, "the 81st, though some are gone", () -> Stores.full(), h -> h.put(15, 15));
        Due.refuses(STATE, "the 81st, though one is gone", StoreEdgesTest::fullButOne, h -> h.put(0, 0));
        Due.changesNothing("a bulk behind the 80th", Stores::full, h -> h.bulk(40, 3));
        Due.is(0, "a bulk puts none behind the 80th", () -> Stores.full().bulk(40, 3));
        Due.changesNothing("a bulk behind the 80th, though one is gone", StoreEdgesTest::fullButOne, h -> h.bulk(40, 3));
        Due.is(0, "it puts none either", () -> fullButOne().bulk(40, 3));
    }

    private static CurvekeyHouse fullButOne() {
        CurvekeyHouse house = Stores.full();
        house.remove(0);
        return house;
    }

    private static void oneForAPlace() {
        Due.says(0, "a PLACE has one that LIVES at most");
        Due.refuses(STATE, "a second one", () -> Stores.rows(2, 2, 6), h -> h.put(2, 1));
        CurvekeyHouse house = Stores.rows(2, 2, 6);
        house.remove(0);
        Due.is(1, "where one is gone", () -> house.put(2, 1));
        house.move(1, 0, 0);
        Due.is(2, "where one moved away", () -> house.put(2, 1));
        Due.is(3, "and beside it", () -> house.put(3, 1));
    }

    private static void versions() {
        Due.says(0, "VERSION is 0 at first, and 1 more as a POINT is put, moved to another PLACE, or taken away.");
        CurvekeyHouse house = new CurvekeyHouse();
        Due.is(0, "at first", () -> house.many(7));
        house.put(0, 0);
        Due.is(1, "put", () -> house.many(7));
        house.move(0, 0, 1);
        Due.is(2, "moved", () -> house.many(7));
        house.move(0, 0, 1);
        Due.is(2, "moved to its own place", () -> house.many(7));
        house.put(1, 0);
        house.remove(0);
        Due.is(4, "taken away", () -> house.many(7));
        int put = house.bulk(5, 1);
        Due.is(4 + put, "a bulk", () -> house.many(7));
        house.speed(1, 0, -1);
        house.tick(9);
        Due.is(4 + put, "a speed is told, and held", () -> house.many(7));
        house.move(1, 7, 7);
        house.speed(1, 0, -2);
        int moves = house.tick(2);
        Due.is(2, "two moves", () -> moves);
        Due.is(7 + put, "ticks", () -> house.many(7));
        house.sweep();
        house.share(3);
        house.draw(0, 0);
        house.search(0, 0, 8, 8, 1);
        house.knock();
        house.design(1, 16, 24, 15);
        Due.is(7 + put, "what else is done", () -> house.many(7));
    }

    private static void spells() {
        Due.says(0, "A SPELL is a POINT at a PLACE, from the VERSION that it made as it came there, "
            + "to ahead of the VERSION that it made as it left.");
        CurvekeyHouse house = Stores.rows(2, 2, 5);
        house.put(3, 3);
        house.move(0, 2, 1);
        house.put(0, 0);
        house.move(0, 1, 1);
        house.remove(0);
        // 5 from 1 to 2, 6 from 3 to 4, 5 from 5 to 5
        int[] first = {0, 1, 1, 0, 0, 1, 0};
        int[] second = {0, 0, 0, 1, 1, 0, 0};
        for (int version = 0; version <= 6; version++) {
            int v = version;
            Due.is(first[v], "at 1 1 as of " + v, () -> house.asOf(1, 1, 1, 1, v));
            Due.is(second[v], "at 2 1 as of " + v, () -> house.asOf(2, 1, 1, 1, v));
        }
        Due.is(3, "its spells", () -> house.ofPoint(0, 4));
        Due.is(5, "all spells", () -> house.many(8));
    }

    private static void curveAndCapacityOfTheStore() {
        Due.says(0, "The CURVE of the STORE is told as it is founded (3 at first), "
            + "and so is CAPACITY (2 to 8; 4 at first).");
        Due.is(3, "the curve at first", () -> new CurvekeyHouse().many(1));
        Due.is(4, "CAPACITY at first", () -> new CurvekeyHouse().many(2));
        for (int curve = 0; curve < 6; curve++) {
            int c = curve;
            CurvekeyHouse house = Stores.empty(3, curve, 2);
            house.put(5, 6);
            Due.is(c, "the curve", () -> house.many(1));
            Due.is(house.key(curve, 5, 6), "the key by it", () -> house.ofPoint(0, 2));
        }
        for (int capacity = 2; capacity <= 8; capacity++) {
            int each = capacity;
            Due.is(capacity, "CAPACITY", () -> Stores.empty(3, 3, each).many(2));
        }
        Due.ranges(2, 8, ARGUMENT, "CAPACITY", Stores::busy, (h, capacity) -> h.found(3, 3, capacity));
    }

    private static void onePageAtFirst() {
        Due.says(0, "There is one PAGE at first.");
        Due.text("0 0 0 -1 -1", "pages of a new object", pagesOf(new CurvekeyHouse()));
        CurvekeyHouse house = Stores.busy();
        house.found(5, 1, 2);
        Due.text("0 0 0 -1 -1", "pages of a store founded anew", pagesOf(house));
    }

    private static void floors() {
        Due.says(0, "PAGES are numbered from 0, in the order of their KEYS; each has a FLOOR (of the first one always 0), "
            + "and holds ENTRIES with KEYS from its FLOOR up to ahead of the FLOOR of the next one, by rising KEYS: "
            + "POINTS that LIVE, and TOMBS (KEYS at which one was taken away, or moved away).");
        CurvekeyHouse house = Stores.rows(3, 2, 30, 20, 10);
        Due.text("0 1 0 10 10 | 20 2 0 20 30", "the first floor is 0", pagesOf(house));
        house.put(3, 2);
        Due.text("0 2 0 10 19 | 20 2 0 20 30", "19 is ahead of the floor 20", pagesOf(house));
        house.remove(2);
        house.move(3, 2, 2);
        Due.text("0 1 1 10 10 | 18 2 1 18 19 | 20 2 0 20 30", "tombs at 10, where one is gone, and at 19, "
            + "where one moved away", pagesOf(house));
        CurvekeyHouse swept = Stores.rows(3, 2, 30, 20, 10);
        swept.remove(1);
        swept.sweep();
        swept.put(4, 2);
        Due.text("0 1 0 10 10 | 20 2 0 20 30", "20 is not ahead of the floor 20", pagesOf(swept));
        swept.put(7, 7);
        Due.text("0 1 0 10 10 | 20 1 0 20 20 | 30 2 0 30 63", "the last page holds up to the last key", pagesOf(swept));
        swept.put(0, 0);
        Due.text("0 2 0 0 10 | 20 1 0 20 20 | 30 2 0 30 63", "the first one from the key 0", pagesOf(swept));
    }

    private static void tombIsTaken() {
        Due.says(0, "To put a POINT into PAGES: if its KEY has a TOMB, that becomes the ENTRY of the POINT.");
        CurvekeyHouse house = Stores.rows(3, 2, 0, 1);
        house.remove(1);
        Due.text("0 2 1 0 1", "a tomb in a full page", pagesOf(house));
        house.put(1, 0);
        Due.text("0 2 0 0 1", "put there", pagesOf(house));
        house.remove(0);
        house.move(2, 0, 0);
        Due.text("0 2 1 0 1", "moved there, and a tomb where it was", pagesOf(house));
        house.move(2, 1, 0);
        Due.text("0 2 1 0 1", "and back", pagesOf(house));
        house.speed(2, -1, 0);
        house.tick(1);
        Due.text("0 2 1 0 1", "and by a tick", pagesOf(house));
        Due.is(0, "no split", () -> house.many(15));
        Due.is(1, "one tomb", () -> house.many(6));
    }

    private static void splits() {
        Due.says(0, "Otherwise there is an ENTRY more; if there are more than CAPACITY then, the PAGE SPLITS: "
            + "it keeps the first half (rounded down) of them, the others go to a new PAGE behind it, "
            + "whose FLOOR is the KEY of its first ENTRY.");
        for (int capacity = 2; capacity <= 8; capacity++) {
            CurvekeyHouse house = Stores.empty(5, 0, capacity);
            for (int entry = 0; entry < capacity; entry++) {
                house.put(3 * (capacity - entry), 0);
            }
            int last = 3 * capacity;
            Due.text("0 " + capacity + " 0 3 " + last, "as many as CAPACITY " + capacity, pagesOf(house));
            Due.is(0, "no split", () -> house.many(15));
            house.put(0, 0);
            int kept = (capacity + 1) / 2;
            Due.text("0 " + kept + " 0 0 " + (3 * kept - 3) + " | " + 3 * kept + " " + (capacity + 1 - kept) + " 0 "
                + 3 * kept + " " + last, "one more than CAPACITY " + capacity, pagesOf(house));
            Due.is(1, "one split", () -> house.many(15));
        }
        CurvekeyHouse house = Stores.rows(5, 2, 7, 8);
        house.move(0, 9, 0);
        Due.text("0 1 1 7 7 | 8 2 0 8 9", "a move may split: 7 is a tomb by then", pagesOf(house));
        house.speed(0, 1, 0);
        house.tick(1);
        Due.text("0 1 1 7 7 | 8 1 0 8 8 | 9 2 1 9 10", "a tick may split", pagesOf(house));
    }

    private static void splitsOfTombs() {
        Due.says(0, "if there are more than CAPACITY then, the PAGE SPLITS");
        CurvekeyHouse house = Stores.rows(3, 2, 0, 1);
        house.remove(1);
        house.put(2, 0);
        Due.text("0 1 0 0 0 | 1 2 1 1 2", "tombs are entries: one is the first behind the split", pagesOf(house));
        house.put(3, 0);
        Due.text("0 1 0 0 0 | 1 1 1 1 1 | 2 2 0 2 3", "a page of tombs alone", pagesOf(house));
        CurvekeyHouse none = Stores.rows(3, 2, 0, 1);
        none.remove(0);
        none.remove(1);
        none.put(2, 0);
        Due.text("0 1 1 0 0 | 1 2 1 1 2", "two tombs and a point", pagesOf(none));
    }

    private static void splitInTheMiddle() {
        Due.says(0, "the others go to a new PAGE behind it");
        CurvekeyHouse house = Stores.rows(3, 2, 0, 1, 40, 50);
        Due.text("0 1 0 0 0 | 1 1 0 1 1 | 40 2 0 40 50", "three pages", pagesOf(house));
        Due.is(2, "the page of 50", () -> house.ofPoint(3, 7));
        house.put(5, 0);
        house.put(6, 0);
        Due.text("0 1 0 0 0 | 1 1 0 1 1 | 5 2 0 5 6 | 40 2 0 40 50", "one between", pagesOf(house));
        Due.is(3, "the page of 50 has another number", () -> house.ofPoint(3, 7));
        Due.is(0, "the first page stays", () -> house.ofPoint(0, 7));
    }

    private static void takenOut() {
        Due.says(0, "To take one out: its ENTRY becomes a TOMB.");
        CurvekeyHouse house = Stores.rows(3, 2, 0, 1, 2);
        house.remove(2);
        house.remove(1);
        house.remove(0);
        Due.text("0 1 1 0 0 | 1 2 2 1 2", "pages of tombs stay", pagesOf(house));
        Due.is(3, "tombs", () -> house.many(6));
        Due.is(0, "points", () -> house.many(4));
    }

    /** Two pages by that capacity, with so many entries together, the last ones of all, behind a sweep. */
    private static CurvekeyHouse swept(int capacity, int left) {
        CurvekeyHouse house = Stores.empty(5, 0, capacity);
        for (int key = 0; key <= capacity; key++) {
            house.put(key, 0);
        }
        for (int key = 0; key <= capacity - left; key++) {
            house.remove(key);
        }
        house.sweep();
        return house;
    }

    private static void sweepJoins() {
        Due.says(0, "Then, as long as there are a PAGE and a next one that have CAPACITY / 2 ENTRIES or fewer together");
        for (int capacity = 2; capacity <= 8; capacity++) {
            for (int left = 0; left <= capacity; left++) {
                int pages = left <= capacity / 2 ? 1 : 2;
                CurvekeyHouse house = swept(capacity, left);
                Due.is(pages, "pages with " + left + " by CAPACITY " + capacity, () -> house.many(5));
                int rest = left;
                Due.is(rest, "entries", () -> house.ofPage(0, 1) + (pages == 2 ? house.ofPage(1, 1) : 0));
            }
        }
    }

    private static void sweepJoinsTheFirstTwo() {
        Due.says(0, "the first such two become one (with the FLOOR of the first one)");
        CurvekeyHouse house = Stores.rows(3, 4, 0, 1, 2, 3, 4, 5, 6);
        Due.text("0 2 0 0 1 | 2 2 0 2 3 | 4 3 0 4 6", "three pages", pagesOf(house));
        house.remove(1);
        house.remove(3);
        house.remove(5);
        house.remove(6);
        house.sweep();
        Due.text("0 2 0 0 2 | 4 1 0 4 4", "0 and 2, not 2 and 4", pagesOf(house));
        CurvekeyHouse chain = Stores.rows(3, 4, 0, 1, 2, 3, 4, 5, 6, 7, 8, 9, 10);
        Due.text("0 2 0 0 1 | 2 2 0 2 3 | 4 2 0 4 5 | 6 2 0 6 7 | 8 3 0 8 10", "five pages", pagesOf(chain));
        for (int point : new int[] {1, 2, 3, 4, 5, 7, 8, 9}) {
            chain.remove(point);
        }
        chain.sweep();
        Due.text("0 2 0 0 6 | 8 1 0 10 10", "one with nothing, one more, then one that is too much", pagesOf(chain));
        chain.remove(0);
        chain.sweep();
        Due.text("0 2 0 6 10", "at last one", pagesOf(chain));
        CurvekeyHouse later = Stores.rows(3, 4, 0, 1, 2, 3, 4, 5, 6, 7, 8, 9, 10);
        later.remove(4);
        later.remove(5);
        later.remove(6);
        later.remove(7);
        later.remove(8);
        later.sweep();
        Due.text("0 2 0 0 1 | 2 2 0 2 3 | 8 2 0 9 10", "0 1 and 2 3 are too many, 2 3 and nothing are not",
            pagesOf(later));
    }

    private static void sweepLeavesFloors() {
        Due.says(0, "To SWEEP: all TOMBS go.");
        CurvekeyHouse house = Stores.rows(3, 2, 10, 20, 30);
        house.remove(0);
        Due.is(1, "one goes", house::sweep);
        Due.text("0 0 0 -1 -1 | 20 2 0 20 30", "a page without an entry", pagesOf(house));
        Due.is(0, "none is left", () -> house.many(6));
        Due.is(0, "none goes", house::sweep);
        house.remove(1);
        Due.is(1, "its first entry goes", house::sweep);
        Due.text("0 1 0 30 30", "the floor goes with the join", pagesOf(house));
        CurvekeyHouse kept = Stores.rows(3, 2, 10, 20, 30);
        kept.remove(1);
        kept.sweep();
        Due.text("0 1 0 10 10 | 20 1 0 30 30", "the floor stays though its entry is gone", pagesOf(kept));
        kept.put(5, 2);
        Due.is(1, "21 is of the page of the floor 20", () -> kept.ofPoint(3, 7));
        kept.sweep();
        Due.is(2, "a sweep without tombs joins none of these", () -> kept.many(5));
    }

    private static void foundForgets() {
        Due.says(9, "Founds a STORE: all that was put, drawn, shared and counted is gone, but the TABLE of the CURVE 5, "
            + "and how many were REFUSED; VERSION is 0.");
        for (int order = 1; order <= 5; order += 2) {
            int each = order;
            Due.alike("founded behind all that was done, or at once", () -> {
                CurvekeyHouse house = Stores.busy();
                house.found(each, 5, 2);
                return house;
            }, () -> {
                CurvekeyHouse house = new CurvekeyHouse();
                house.design(9, 2, 28, 23);
                house.knock();
                house.found(each, 5, 2);
                return house;
            });
        }
        CurvekeyHouse house = Stores.busy();
        house.found(3, 3, 4);
        int[] want = {3, 3, 4, 0, 0, 1, 0, 0, 0, 0, 0, 1, 0, 0, 0, 0};
        for (int what = 0; what < want.length; what++) {
            int w = what;
            Due.is(want[w], "founded many(" + w + ")", () -> house.many(w));
        }
        Due.is(27, "the table is as it was", () -> house.ofCurve(5, 0));
        Due.is(2, "one was refused", house::knock);
        Due.is(-1, "no tile", () -> house.tile(0, 0, false));
        Due.is(0, "no spell", () -> house.asOf(0, 0, 8, 8, 0));
        house.put(0, 0);
        Due.is(0, "no speed of one ahead of it", () -> house.tick(1));
        house.remove(0);
        Due.is(0, "no spell from ahead of it", () -> house.asOf(0, 0, 8, 8, 2));
        house.found(3, 3, 4);
        house.found(3, 3, 4);
        Due.is(3, "two more found change nothing of that", house::knock);
    }

    private static void foundReturns() {
        Due.says(9, "Returns how many KEYS there are.");
        int[] due = {0, 4, 16, 64, 256, 1024};
        for (int order = 1; order <= 5; order++) {
            int o = order;
            Due.is(due[o], "found of the order " + o, () -> Stores.busy().found(o, 0, 2));
        }
    }

    private static void foundRefused() {
        Due.says(9, "Throws `IllegalArgumentException` if order is not 1 to 5, curve not 0 to 5, "
            + "or capacity not 2 to 8");
        Due.ranges(1, 5, ARGUMENT, "found of the order", Stores::busy, (h, order) -> h.found(order, 5, 8));
        Due.ranges(0, 5, ARGUMENT, "found by the curve", Stores::busy, (h, curve) -> h.found(1, curve, 2));
        Due.ranges(2, 8, ARGUMENT, "found with CAPACITY", Stores::busy, (h, capacity) -> h.found(5, 0, capacity));
    }

    private static void putReturns() {
        Due.says(10, "Returns its number.");
        CurvekeyHouse house = Stores.full();
        house.found(4, 3, 8);
        for (int number = 0; number < 80; number++) {
            int n = number;
            Due.is(n, "from 0 to 79", () -> house.put(n % 16, 15 - n / 16));
        }
        CurvekeyHouse gone = Stores.rows(2, 2, 0);
        gone.remove(0);
        Due.is(1, "a number is not used again", () -> gone.put(0, 0));
    }

    private static void putRefused() {
        Due.says(10, "Throws `IllegalArgumentException` if there is no such PLACE");
        Due.ranges(0, 7, ARGUMENT, "put at x", Stores::busy, (h, x) -> h.put(x, 3));
        Due.ranges(0, 7, ARGUMENT, "put at y", Stores::busy, (h, y) -> h.put(3, y));
        Due.refuses(ARGUMENT, "put nowhere behind the 80th", Stores::full, h -> h.put(16, 15));
        Due.refuses(ARGUMENT, "put nowhere behind the 80th", Stores::full, h -> h.put(0, -1));
        Due.says(10, "Throws `IllegalStateException` if a POINT LIVES there, or there were 80");
        Due.refuses(STATE, "put where one lives", Stores::busy, h -> h.put(7, 7));
        Due.refuses(STATE, "put where one was moved to", Stores::busy, h -> h.put(0, 7));
        Due.allows("put where one is gone", Stores::oneGone, h -> h.put(1, 0));
        Due.allows("put where one was moved away", Stores::oneMoved, h -> h.put(1, 0));
        Due.refuses(STATE, "put where one lives behind the 80th", Stores::full, h -> h.put(0, 0));
        Due.refuses(STATE, "put where none lives behind the 80th", Stores::full, h -> h.put(15, 15));
        Due.refuses(STATE, "put where one is gone behind the 80th", StoreEdgesTest::fullButOne, h -> h.put(0, 0));
        Due.refuses(STATE, "put on a full plane", Stores::crowded, h -> h.put(1, 1));
    }

    private static void bulkPuts() {
        Due.says(11, "Puts POINTS by a seed: so many times x and y, each the next number of the ROW modulo SIDE; "
            + "where one LIVES already, none is put; none behind the 80th one.");
        // the row of 1 modulo 4: 0 0, 1 0, 1 3, 0 1, 0 3, 3 1, and modulo 2: 0 0, 1 0, 1 1, 0 1, 0 1, 1 1
        CurvekeyHouse house = Stores.empty(1, 0, 2);
        Due.is(3, "three times", () -> house.bulk(3, 1));
        Due.is(1, "x of the third", () -> house.ofPoint(2, 0));
        Due.is(1, "y of the third", () -> house.ofPoint(2, 1));
        Due.is(1, "from the first number on again: the fourth is put alone", () -> house.bulk(5, 1));
        Due.is(0, "x of the fourth", () -> house.ofPoint(3, 0));
        Due.is(1, "y of the fourth", () -> house.ofPoint(3, 1));
        house.remove(1);
        Due.is(1, "where one is gone, one is put", () -> house.bulk(2, 1));
        Due.is(4, "its number", () -> house.nearest(1, 0, 0));
        Due.changesNothing("a bulk on a full plane", Stores::crowded, h -> h.bulk(40, 99));
        CurvekeyHouse last = Stores.empty(5, 0, 8);
        for (int number = 0; number < 79; number++) {
            last.put(number % 32, number / 32);
        }
        Due.is(79, "points", () -> last.many(3));
        Due.is(1, "one more of 40", () -> last.bulk(40, 8));
        Due.is(80, "points", () -> last.many(3));
        Due.is(80, "VERSION", () -> last.many(7));
    }

    private static void bulkReturns() {
        Due.says(11, "Returns how many are put.");
        Due.is(0, "none on a full plane", () -> Stores.crowded().bulk(40, 5));
        Due.is(4, "four on the least plane", () -> Stores.empty(1, 0, 2).bulk(40, 5));
        Due.is(1, "one time", () -> new CurvekeyHouse().bulk(1, 0));
        CurvekeyHouse house = Stores.empty(5, 0, 8);
        Due.is(40, "40 times", () -> house.bulk(40, 0));
        Due.is(0, "the same again", () -> house.bulk(40, 0));
        Due.is(40, "points ever", () -> house.many(3));
    }

    private static void bulkRefused() {
        Due.says(11, "Throws `IllegalArgumentException` if many is not 1 to 40, or seed not 0 to 99");
        Due.ranges(1, 40, ARGUMENT, "bulk of many", Stores::busy, (h, many) -> h.bulk(many, 50));
        Due.ranges(0, 99, ARGUMENT, "bulk of the seed", Stores::busy, (h, seed) -> h.bulk(3, seed));
        Due.refuses(ARGUMENT, "bulk behind the 80th", Stores::full, h -> h.bulk(41, 0));
    }

    private static void moveReturns() {
        Due.says(12, "Returns its KEY then.");
        CurvekeyHouse house = Stores.empty(2, 3, 2);
        house.put(0, 0);
        Due.is(15, "to the last key", () -> house.move(0, 3, 0));
        Due.is(10, "to the farthest place", () -> house.move(0, 3, 3));
        Due.is(10, "to its own place", () -> house.move(0, 3, 3));
        Due.is(0, "to the key 0", () -> house.move(0, 0, 0));
        Due.changesNothing("a move to its own place", Stores::busy, h -> h.move(10, 6, 7));
        Due.changesNothing("a move to its own place on a full plane", Stores::crowded, h -> h.move(2, 0, 1));
        Due.is(5, "the move to another place counts", () -> {
            house.move(0, 0, 1);
            return house.many(7);
        });
    }

    private static void moveRefused() {
        Due.says(12, "Throws `IndexOutOfBoundsException` if there is no such POINT");
        Due.ranges(0, 10, INDEX, "move of the point", Stores::busy, (h, point) -> h.move(point, 3, 3));
        Due.refuses(INDEX, "move of none", CurvekeyHouse::new, h -> h.move(0, 0, 0));
        Due.refuses(INDEX, "move of none to nowhere", Stores::busy, h -> h.move(11, 8, 8));
        Due.refuses(INDEX, "move of none to where one lives", Stores::busy, h -> h.move(-1, 7, 7));
        Due.says(12, "Throws `IllegalArgumentException` if there is no such PLACE");
        Due.ranges(0, 7, ARGUMENT, "move to x", Stores::busy, (h, x) -> h.move(2, x, 3));
        Due.ranges(0, 7, ARGUMENT, "move to y", Stores::busy, (h, y) -> h.move(2, 3, y));
        Due.refuses(ARGUMENT, "move of one that is gone, to nowhere", Stores::busy, h -> h.move(1, 8, 0));
        Due.refuses(ARGUMENT, "move of one that is gone, to nowhere", Stores::busy, h -> h.move(4, 0, -1));
        Due.says(12, "Throws `IllegalStateException` if it does not LIVE, or another one LIVES there");
        Due.refuses(STATE, "move of one that is gone", Stores::busy, h -> h.move(1, 3, 3));
        Due.refuses(STATE, "move of one that is gone to where it was", Stores::oneGone, h -> h.move(1, 1, 0));
        Due.refuses(STATE, "move of one that is gone to where one lives", Stores::busy, h -> h.move(1, 7, 7));
        Due.refuses(STATE, "move to where another one lives", Stores::busy, h -> h.move(2, 7, 7));
        Due.refuses(STATE, "move to the first one", Stores::oneGone, h -> h.move(2, 0, 0));
        Due.allows("move to where one is gone", Stores::oneGone, h -> h.move(0, 1, 0));
        Due.allows("move to its own place", Stores::oneGone, h -> h.move(0, 0, 0));
    }

    private static void removeReturns() {
        Due.says(13, "Returns VERSION then.");
        Due.is(81, "the last of 80", () -> Stores.full().remove(79));
        CurvekeyHouse house = Stores.rows(2, 2, 0, 1);
        Due.is(3, "remove", () -> house.remove(0));
        Due.is(4, "remove", () -> house.remove(1));
        Due.is(4, "VERSION", () -> house.many(7));
        Due.is(0, "none lives", () -> house.many(4));
    }

    private static void removeRefused() {
        Due.says(13, "Throws `IndexOutOfBoundsException` if there is no such POINT");
        Due.ranges(0, 10, INDEX, "remove of the point", Stores::busy, (h, point) -> h.remove(point));
        Due.refuses(INDEX, "remove of none", CurvekeyHouse::new, h -> h.remove(0));
        Due.refuses(INDEX, "remove of the 81st", Stores::full, h -> h.remove(80));
        Due.refuses(INDEX, "remove of one ahead of found", StoreEdgesTest::foundAnew, h -> h.remove(0));
        Due.says(13, "Throws `IllegalStateException` if it does not LIVE");
        Due.refuses(STATE, "remove of one that is gone", Stores::busy, h -> h.remove(1));
        Due.refuses(STATE, "remove of the first one again", StoreEdgesTest::fullButOne, h -> h.remove(0));
        Due.refuses(STATE, "remove of one gone where another one lives", Stores::busy, h -> h.remove(4));
    }

    private static CurvekeyHouse foundAnew() {
        CurvekeyHouse house = Stores.busy();
        house.found(3, 3, 4);
        return house;
    }

    private static void sweepReturns() {
        Due.says(14, "Returns how many TOMBS went.");
        Due.is(0, "of an empty store", () -> new CurvekeyHouse().sweep());
        Due.is(0, "of a full store", () -> Stores.full().sweep());
        Due.is(6, "of a busy store", () -> Stores.busy().sweep());
        CurvekeyHouse house = Stores.full();
        for (int point = 0; point < 80; point++) {
            house.remove(point);
        }
        Due.is(80, "all", house::sweep);
        Due.text("0 0 0 -1 -1", "one page is left", pagesOf(house));
        CurvekeyHouse taken = Stores.oneGone();
        taken.put(1, 0);
        Due.is(0, "a tomb that was taken does not go", taken::sweep);
        Due.is(4, "VERSION is that of four changes ahead", () -> Stores.oneGone().many(7));
        Due.is(5, "and stays", () -> taken.many(7));
        Due.changesNothing("a sweep without tombs", Stores::full, CurvekeyHouse::sweep);
    }

    private static void pointFacts() {
        Due.says(15, "- `what`: 0 x, 1 y, 2 its KEY (as it is, or as it was last), 3 1 if it LIVES, otherwise 0, "
            + "4 its SPELLS, 5 the VERSION at which its first SPELL began, "
            + "6 the VERSION that it made as it was taken away (NONE), 7 its PAGE (NONE, if it does not LIVE), "
            + "8 and 9 its SPEED by x and y (4; as told last)");
        CurvekeyHouse house = Stores.empty(2, 3, 2);
        house.put(3, 0);
        pointIs(house, "put", 0, 3, 0, 15, 1, 1, 1, -1, 0, 0, 0);
        house.put(2, 0);
        house.put(0, 0);
        pointIs(house, "a page comes ahead of it", 0, 3, 0, 15, 1, 1, 1, -1, 1, 0, 0);
        house.move(0, 3, 0);
        pointIs(house, "to its own place", 0, 3, 0, 15, 1, 1, 1, -1, 1, 0, 0);
        house.speed(0, 3, -3);
        house.move(0, 1, 1);
        pointIs(house, "moved to the key 2", 0, 1, 1, 2, 1, 2, 1, -1, 0, 3, -3);
        house.speed(0, 0, 1);
        house.tick(1);
        pointIs(house, "by a tick to the key 7, which splits 0, 2 and 7", 0, 1, 2, 7, 1, 3, 1, -1, 1, 0, 1);
        house.remove(0);
        pointIs(house, "taken away", 0, 1, 2, 7, 0, 3, 1, 6, -1, 0, 1);
        house.put(1, 2);
        pointIs(house, "another one there", 0, 1, 2, 7, 0, 3, 1, 6, -1, 0, 1);
        pointIs(house, "the other one", 3, 1, 2, 7, 1, 1, 7, -1, 1, 0, 0);
        pointIs(house, "behind 0, and 2 and 7", 1, 2, 0, 14, 1, 1, 2, -1, 2, 0, 0);
        house.remove(3);
        house.sweep();
        pointIs(house, "its page behind a sweep: 0, and 14", 1, 2, 0, 14, 1, 1, 2, -1, 1, 0, 0);
        CurvekeyHouse last = Stores.rows(4, 8, 255);
        pointIs(last, "at the last key", 0, 15, 15, 255, 1, 1, 1, -1, 0, 0, 0);
    }

    private static void pointIs(CurvekeyHouse house, String when, int point, int... want) {
        for (int what = 0; what < want.length; what++) {
            int w = what;
            Due.is(want[w], when + ": ofPoint(" + point + ", " + w + ")", () -> house.ofPoint(point, w));
        }
    }

    private static void pointRefused() {
        Due.says(15, "Throws `IndexOutOfBoundsException` if there is no such POINT");
        Due.ranges(0, 10, INDEX, "ofPoint of the point", Stores::busy, (h, point) -> h.ofPoint(point, 9));
        Due.refuses(INDEX, "ofPoint of none", CurvekeyHouse::new, h -> h.ofPoint(0, 0));
        Due.refuses(INDEX, "ofPoint of the 81st", Stores::full, h -> h.ofPoint(80, 0));
        Due.refuses(INDEX, "ofPoint of none, of no such thing", Stores::busy, h -> h.ofPoint(11, 10));
        Due.refuses(INDEX, "ofPoint of none, of no such thing", Stores::busy, h -> h.ofPoint(-1, -1));
        Due.allows("ofPoint of one that is gone", Stores::busy, h -> h.ofPoint(1, 7));
        Due.says(15, "Throws `IllegalArgumentException` if what is not 0 to 9");
        Due.ranges(0, 9, ARGUMENT, "ofPoint of what", Stores::busy, (h, what) -> h.ofPoint(10, what));
        Due.refuses(ARGUMENT, "of one that is gone", Stores::busy, h -> h.ofPoint(1, 10));
    }

    private static void pageFacts() {
        Due.says(16, "- `what`: 0 its FLOOR, 1 ENTRIES, 2 TOMBS, 3 the KEY of its first ENTRY (NONE), "
            + "4 of its last one (NONE), 5 its MACHINE (6)");
        Due.text("0 0 0 -1 -1", "without an entry", pagesOf(new CurvekeyHouse()));
        Due.text("0 1 0 9 9", "one entry is the first and the last", pagesOf(Stores.rows(3, 2, 9)));
        CurvekeyHouse house = Stores.rows(3, 2, 9, 10);
        house.remove(0);
        Due.text("0 2 1 9 10", "the first entry may be a tomb", pagesOf(house));
        house.remove(1);
        Due.text("0 2 2 9 10", "all may be tombs", pagesOf(house));
        house.sweep();
        Due.text("0 0 0 -1 -1", "without an entry again", pagesOf(house));
        CurvekeyHouse ends = Stores.rows(5, 8, 0, 1023);
        Due.text("0 2 0 0 1023", "the first key and the last", pagesOf(ends));
        CurvekeyHouse many = Stores.rows(3, 2, 0, 1, 2, 3, 4, 5);
        Due.is(5, "PAGES", () -> many.many(5));
        for (int machines = 1; machines <= 4; machines++) {
            many.share(machines);
            for (int page = 0; page < 5; page++) {
                int p = page;
                int m = machines;
                Due.is(p * m / 5, "MACHINE of " + p + " by " + m, () -> many.ofPage(p, 5));
            }
        }
    }

    private static void pageRefused() {
        Due.says(16, "Throws `IndexOutOfBoundsException` if there is no such PAGE");
        Due.ranges(0, 5, INDEX, "ofPage of the page", Stores::busy, (h, page) -> h.ofPage(page, 5));
        Due.ranges(0, 0, INDEX, "ofPage of the only page", CurvekeyHouse::new, (h, page) -> h.ofPage(page, 0));
        Due.refuses(INDEX, "ofPage of none, of no such thing", Stores::busy, h -> h.ofPage(6, 6));
        Due.refuses(INDEX, "ofPage of none, of no such thing", Stores::busy, h -> h.ofPage(-1, -1));
        Due.says(16, "Throws `IllegalArgumentException` if what is not 0 to 5");
        Due.ranges(0, 5, ARGUMENT, "ofPage of what", Stores::busy, (h, what) -> h.ofPage(5, what));
        Due.ranges(0, 5, ARGUMENT, "ofPage of what", CurvekeyHouse::new, (h, what) -> h.ofPage(0, what));
    }

    private static void manyFacts() {
        Due.says(17, "- `what`: 0 ORDER, 1 the CURVE, 2 CAPACITY, 3 POINTS ever, 4 POINTS that LIVE, 5 PAGES, 6 TOMBS, "
            + "7 VERSION, 8 SPELLS, 9 PAGES that were READ ever (3), 10 SEARCHES, 11 MACHINES, 12 TILES that are drawn, "
            + "13 of these STALE ones, 14 how often a POINT was BARRED (4), 15 SPLITS ever");
        manyIs(new CurvekeyHouse(), "new", 3, 3, 4, 0, 0, 1, 0, 0, 0, 0, 0, 1, 0, 0, 0, 0);
        manyIs(Stores.full(), "full", 4, 3, 8, 80, 80, Stores.full().many(5), 0, 80, 80, 0, 0, 1, 0, 0, 0,
            Stores.full().many(5) - 1);
        manyIs(Stores.crowded(), "crowded", 1, 0, 2, 4, 4, 3, 0, 4, 4, 0, 0, 1, 0, 0, 0, 2);
        manyIs(Stores.drawn(), "drawn", 2, 0, 2, 3, 3, 2, 0, 3, 3, 0, 0, 1, 20, 0, 0, 1);
        CurvekeyHouse house = Stores.drawn();
        house.search(0, 0, 4, 4, 1);
        house.search(0, 0, 1, 1, 99);
        house.remove(1);
        manyIs(house, "two searches: 2 pages and 1; one gone: stale are 0 0, 1 0 and 2 5",
            2, 0, 2, 3, 2, 2, 1, 4, 3, 3, 2, 1, 20, 3, 0, 1);
        house.sweep();
        house.put(1, 0);
        house.put(2, 0);
        manyIs(house, "0 to 2 are split; one more tile of side 2 is stale, 1 1, and 2 1 and 2 2",
            2, 0, 2, 5, 4, 3, 0, 6, 5, 3, 2, 1, 20, 6, 0, 2);
        house.speed(0, 1, 0);
        house.tick(3);
        manyIs(house, "barred three times", 2, 0, 2, 5, 4, 3, 0, 6, 5, 3, 2, 1, 20, 6, 3, 2);
    }

    private static void manyIs(CurvekeyHouse house, String when, int... want) {
        for (int what = 0; what < want.length; what++) {
            int w = what;
            Due.is(want[w], when + ": many(" + w + ")", () -> house.many(w));
        }
    }

    private static void manyRefused() {
        Due.says(17, "Throws `IllegalArgumentException` if what is not 0 to 15");
        Due.ranges(0, 15, ARGUMENT, "many of what", Stores::busy, (h, what) -> h.many(what));
        Due.ranges(0, 15, ARGUMENT, "many of what", CurvekeyHouse::new, (h, what) -> h.many(what));
    }
}
