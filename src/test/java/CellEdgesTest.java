/** The edges of machines, blurs, tiles and the rival: the description's part 6, and promises 32 to 41. */
public final class CellEdgesTest {
    private static final Class<?> ARGUMENT = IllegalArgumentException.class;
    private static final Class<?> STATE = IllegalStateException.class;
    private static final Class<?> INDEX = IndexOutOfBoundsException.class;

    public static void main(String[] args) {
        machinesOfPages();
        loads();
        cells();
        blurs();
        tilesTell();
        tilesGrowOld();
        tilesOfEitherPlace();
        tilesOfEachPlace();
        rivals();
        shareReturns();
        shareRefused();
        machineFacts();
        machineRefused();
        skews();
        densities();
        densityRefused();
        fullestReturns();
        fullestRefused();
        blurReturns();
        blurRefused();
        drawReturns();
        drawRefused();
        twentyTiles();
        tileReturns();
        tileRefused();
        rivalFacts();
        rivalRefused();
        rivalReads();
        rivalReadsRefused();
        Due.end();
    }

    /** Five pages: 0, 1, 2, 3, and 4 and 5. */
    private static CurvekeyHouse five() {
        return Stores.rows(3, 2, 0, 1, 2, 3, 4, 5);
    }

    private static String machinesOf(CurvekeyHouse house) {
        StringBuilder text = new StringBuilder();
        for (int page = 0; page < house.many(5); page++) {
            text.append(house.ofPage(page, 5));
        }
        return text.toString();
    }

    private static void machinesOfPages() {
        Due.says(0, "MACHINES: 1 to 4 (1 at first): with M of them and P PAGES the PAGE p is the MACHINE's p * M / P, "
            + "as it is now.");
        Due.is(1, "at first", () -> new CurvekeyHouse().many(11));
        Due.text("00000", "by one machine", machinesOf(five()));
        String[] due = {"", "00000", "00011", "00112", "00123"};
        for (int machines = 1; machines <= 4; machines++) {
            CurvekeyHouse house = five();
            house.share(machines);
            Due.text(due[machines], "five pages by " + machines, machinesOf(house));
        }
        CurvekeyHouse house = Stores.rows(3, 2, 0, 1, 2);
        house.share(2);
        Due.text("01", "two pages", machinesOf(house));
        house.put(3, 0);
        Due.text("001", "as it is now: the second of three is the first machine's", machinesOf(house));
        house.put(4, 0);
        Due.text("0011", "the third of four is the second machine's", machinesOf(house));
        for (int point = 1; point < 5; point++) {
            house.remove(point);
        }
        house.sweep();
        Due.text("0", "one page is left", machinesOf(house));
        Due.ranges(1, 4, ARGUMENT, "share", Stores::busy, (h, machines) -> h.share(machines));
    }

    private static void loads() {
        Due.says(0, "LOAD: POINTS that LIVE in its PAGES.");
        CurvekeyHouse house = five();
        house.share(2);
        Due.is(3, "0, 1 and 2", () -> house.ofMachine(0, 0));
        Due.is(3, "3, 4 and 5", () -> house.ofMachine(1, 0));
        house.remove(4);
        house.remove(5);
        Due.is(1, "tombs are no load", () -> house.ofMachine(1, 0));
        Due.is(2, "but their page is its page", () -> house.ofMachine(1, 1));
        house.move(3, 7, 7);
        Due.is(1, "one that moves to another of its pages", () -> house.ofMachine(1, 0));
        house.move(3, 4, 0);
        house.move(2, 5, 0);
        Due.is(2, "one that comes", () -> house.ofMachine(1, 0));
        Due.is(2, "one that goes", () -> house.ofMachine(0, 0));
    }

    private static void cells() {
        Due.says(0, "CELLS of a LEVEL (0 to ORDER): the plane in 2 to the power of LEVEL columns and rows, "
            + "numbered row by row.");
        // 5 2 on the side 8
        CurvekeyHouse house = Stores.rows(3, 2, 21);
        int[] due = {0, 1, 6, 21};
        for (int level = 0; level <= 3; level++) {
            for (int cell = 0; cell < 1 << 2 * level; cell++) {
                int l = level;
                int c = cell;
                Due.is(c == due[l] ? 1 : 0, "density(" + l + ", " + c + ")", () -> house.density(l, c));
            }
        }
        int[][] edges = {{3, 3, 0}, {4, 3, 1}, {3, 4, 2}, {4, 4, 3}, {0, 0, 0}, {7, 0, 1}, {0, 7, 2}, {7, 7, 3}};
        for (int[] e : edges) {
            CurvekeyHouse one = Stores.rows(3, 2, 8 * e[1] + e[0]);
            Due.is(1, "the quarter of " + e[0] + " " + e[1], () -> one.density(1, e[2]));
        }
    }

    private static void blurs() {
        Due.says(0, "A BLUR of a POINT for k: the greatest LEVEL whose CELL around it has k POINTS that LIVE or more.");
        // 0 0, 1 1, 2 2, 7 7
        CurvekeyHouse house = Stores.rows(3, 2, 0, 9, 18, 63);
        int[][] due = {{0, 1, 3}, {0, 2, 2}, {0, 3, 1}, {0, 4, 0}, {0, 5, -1}, {2, 1, 3}, {2, 2, 1}, {2, 3, 1}, {2, 4, 0},
            {3, 1, 3}, {3, 2, 0}, {3, 4, 0}, {3, 5, -1}};
        for (int[] d : due) {
            Due.is(d[2], "blur(" + d[0] + ", " + d[1] + ")", () -> house.blur(d[0], d[1]));
        }
        house.remove(1);
        Due.is(1, "of those that live", () -> house.blur(0, 2));
        // 7 0 and 6 0, 0 7 and 0 6, 4 3
        CurvekeyHouse apart = Stores.rows(3, 2, 7, 6, 56, 48, 28);
        int[][] far = {{0, 2, 2}, {0, 3, 1}, {0, 4, 0}, {2, 2, 2}, {2, 3, 0}, {4, 1, 3}, {4, 2, 1}, {4, 3, 1}, {4, 4, 0}};
        for (int[] d : far) {
            Due.is(d[2], "blur(" + d[0] + ", " + d[1] + ") of unlike x and y", () -> apart.blur(d[0], d[1]));
        }
    }

    private static void tilesTell() {
        Due.says(0, "TILES: a CELL of a LEVEL can be drawn: it tells how many POINTS LIVE in it as it is drawn.");
        CurvekeyHouse house = Stores.rows(3, 2, 0, 9, 63);
        Due.is(3, "the plane", () -> house.draw(0, 0));
        Due.is(2, "the first quarter", () -> house.draw(1, 0));
        Due.is(0, "the second quarter", () -> house.draw(1, 1));
        Due.is(1, "the last place", () -> house.draw(3, 63));
        house.remove(2);
        house.put(7, 0);
        Due.is(3, "the plane as it was", () -> house.tile(0, 0, false));
        Due.is(0, "the second quarter as it was", () -> house.tile(1, 1, false));
        Due.is(1, "the last place as it was", () -> house.tile(3, 63, false));
        Due.is(1, "the second quarter anew", () -> house.draw(1, 1));
        Due.is(1, "it tells that", () -> house.tile(1, 1, false));
        Due.is(0, "the last place anew", () -> house.draw(3, 63));
        Due.is(0, "it tells that", () -> house.tile(3, 63, false));
    }

    /** What of 0 0, 1 0, 1 3, 3 0 and 3 63 is stale, as digits; "-" is not drawn. */
    private static String staleOnes(CurvekeyHouse house) {
        int[][] tiles = {{0, 0}, {1, 0}, {1, 3}, {3, 0}, {3, 63}};
        StringBuilder text = new StringBuilder();
        for (int[] tile : tiles) {
            int stale = house.tile(tile[0], tile[1], true);
            text.append(stale < 0 ? "-" : String.valueOf(stale));
        }
        return text.toString();
    }

    private static CurvekeyHouse fiveTiles() {
        CurvekeyHouse house = Stores.rows(3, 2, 0, 63);
        redraw(house);
        return house;
    }

    private static void redraw(CurvekeyHouse house) {
        house.draw(0, 0);
        house.draw(1, 0);
        house.draw(1, 3);
        house.draw(3, 0);
        house.draw(3, 63);
    }

    private static void tilesGrowOld() {
        Due.says(0, "It is STALE as soon as a POINT is put, moved to another PLACE or taken away with a PLACE in it "
            + "(either one), till it is drawn anew.");
        Due.text("-----", "none is drawn", staleOnes(new CurvekeyHouse()));
        Due.text("00000", "all are fresh", staleOnes(fiveTiles()));
        CurvekeyHouse house = fiveTiles();
        house.put(1, 0);
        Due.text("11000", "put at 1 0", staleOnes(house));
        house.put(7, 6);
        Due.text("11100", "and at 7 6", staleOnes(house));
        Due.is(3, "so many", () -> house.many(13));
        house.draw(1, 0);
        Due.text("10100", "one anew", staleOnes(house));
        house.draw(1, 0);
        Due.text("10100", "and again", staleOnes(house));
        redraw(house);
        Due.text("00000", "all anew", staleOnes(house));
        Due.is(5, "they are five still", () -> house.many(12));
        house.remove(0);
        Due.text("11010", "taken away at 0 0", staleOnes(house));
        house.put(0, 0);
        Due.text("11010", "put there again, as many as were told: it is stale still", staleOnes(house));
        redraw(house);
        house.sweep();
        house.search(0, 0, 8, 8, 1);
        house.share(2);
        house.speed(1, 1, 1);
        house.tick(9);
        Due.text("00000", "what else is done, and a tick in which none moves", staleOnes(house));
        house.bulk(1, 0);
        Due.text("10000", "a bulk at 3 7", staleOnes(house));
        redraw(house);
        house.bulk(1, 0);
        Due.text("00000", "a bulk that puts none", staleOnes(house));
        house.found(3, 3, 4);
        Due.text("-----", "a store founded anew has none", staleOnes(house));
    }

    private static void tilesOfEitherPlace() {
        Due.says(0, "with a PLACE in it (either one)");
        CurvekeyHouse house = fiveTiles();
        house.move(0, 7, 6);
        Due.text("11110", "moved from 0 0 to 7 6", staleOnes(house));
        redraw(house);
        house.move(0, 7, 6);
        Due.text("00000", "moved to its own place", staleOnes(house));
        house.move(0, 6, 6);
        Due.text("10100", "moved within a quarter", staleOnes(house));
        redraw(house);
        house.move(0, 7, 0);
        Due.text("10100", "moved to a quarter that is not drawn", staleOnes(house));
        redraw(house);
        house.move(0, 0, 0);
        Due.text("11010", "moved from one that is not drawn", staleOnes(house));
        redraw(house);
        house.speed(0, 3, 3);
        house.tick(2);
        Due.text("11110", "by ticks from 0 0 to 6 6", staleOnes(house));
        redraw(house);
        house.speed(0, 1, 1);
        Due.is(0, "barred at 7 7", () -> house.tick(3));
        Due.text("00000", "who is barred does not move", staleOnes(house));
    }

    /** 20 tiles of the side 4, all but the last quarter, and points at these keys by rows. */
    private static CurvekeyHouse allTiles(int... keys) {
        CurvekeyHouse house = Stores.rows(2, 2, keys);
        house.draw(0, 0);
        for (int cell = 0; cell < 3; cell++) {
            house.draw(1, cell);
        }
        for (int cell = 0; cell < 16; cell++) {
            house.draw(2, cell);
        }
        return house;
    }

    /** Stale are just the tiles around these places, told by their keys by rows. */
    private static void staleAround(CurvekeyHouse house, String when, int... places) {
        int[] due = new int[16];
        int[] quarters = new int[4];
        for (int place : places) {
            due[place] = 1;
            quarters[place / 8 * 2 + place % 4 / 2] = 1;
        }
        quarters[3] = -1;
        Due.is(1, when + ": the plane", () -> house.tile(0, 0, true));
        for (int quarter = 0; quarter < 4; quarter++) {
            int q = quarter;
            Due.is(quarters[q], when + ": the quarter " + q, () -> house.tile(1, q, true));
        }
        for (int place = 0; place < 16; place++) {
            int p = place;
            Due.is(due[p], when + ": the place " + p, () -> house.tile(2, p, true));
        }
    }

    private static void tilesOfEachPlace() {
        Due.says(0, "It is STALE as soon as a POINT is put, moved to another PLACE or taken away with a PLACE in it");
        for (int place = 0; place < 16; place++) {
            int other = (place * 5 + 7) % 16;
            CurvekeyHouse put = allTiles();
            put.put(place % 4, place / 4);
            staleAround(put, "put at " + place, place);
            CurvekeyHouse gone = allTiles(place);
            gone.remove(0);
            staleAround(gone, "taken away at " + place, place);
            if (other != place) {
                CurvekeyHouse moved = allTiles(place);
                moved.move(0, other % 4, other / 4);
                staleAround(moved, "moved from " + place + " to " + other, place, other);
            }
        }
        CurvekeyHouse ticked = allTiles(2, 12);
        ticked.speed(0, 1, 0);
        ticked.tick(1);
        staleAround(ticked, "a tick from 2 to 3", 2, 3);
    }

    private static void rivals() {
        Due.says(0, "The RIVAL: a tree of squares: the plane is a LEAF; a LEAF with more than CAPACITY POINTS that LIVE, "
            + "and a side above 1, is four QUARTERS instead, and so on.");
        for (int capacity = 2; capacity <= 8; capacity++) {
            CurvekeyHouse house = Stores.empty(4, 0, capacity);
            for (int number = 0; number < capacity; number++) {
                house.put(number % 4 * 4, number / 4 * 8);
            }
            rivalIs(house, "as many as CAPACITY " + capacity, 1, 0, 0);
            house.put(15, 15);
            Due.is(1, "one more is deep by one", () -> house.rival(1));
            Due.is(4, "four leaves", () -> house.rival(0));
            house.remove(0);
            rivalIs(house, "one is gone", 1, 0, 0);
        }
        // three points in the last square of the side 2, on each plane
        int[] leaves = {0, 4, 7, 10, 13, 16};
        int[] empty = {0, 1, 4, 7, 10, 13};
        for (int order = 1; order <= 5; order++) {
            int last = (1 << order) - 1;
            CurvekeyHouse house = Stores.empty(order, 3, 2);
            house.put(last, last);
            house.put(last - 1, last);
            house.put(last, last - 1);
            rivalIs(house, "down to the side 1, order " + order, leaves[order], order, empty[order]);
        }
        rivalIs(Stores.crowded(), "a side of 1 is no more than a leaf", 4, 1, 0);
        rivalIs(new CurvekeyHouse(), "without points", 1, 0, 1);
    }

    private static void rivalIs(CurvekeyHouse house, String when, int leaves, int depth, int empty) {
        Due.is(leaves, when + ": LEAVES", () -> house.rival(0));
        Due.is(depth, when + ": depth", () -> house.rival(1));
        Due.is(empty, when + ": without a point", () -> house.rival(2));
    }

    private static void shareReturns() {
        Due.says(32, "Returns how many PAGES have another MACHINE by that.");
        CurvekeyHouse house = five();
        int[][] due = {{1, 0}, {2, 2}, {2, 0}, {3, 2}, {4, 2}, {4, 0}, {1, 3}, {4, 3}, {2, 3}, {1, 2}};
        for (int[] d : due) {
            Due.is(d[1], "share(" + d[0] + ")", () -> house.share(d[0]));
            Due.is(d[0], "MACHINES", () -> house.many(11));
        }
        CurvekeyHouse one = new CurvekeyHouse();
        Due.is(0, "the only page is the first machine's", () -> one.share(4));
        Due.is(4, "MACHINES", () -> one.many(11));
    }

    private static void shareRefused() {
        Due.says(32, "Throws `IllegalArgumentException` if machines is not 1 to 4");
        Due.ranges(1, 4, ARGUMENT, "share", Stores::busy, (h, machines) -> h.share(machines));
        Due.ranges(1, 4, ARGUMENT, "share", CurvekeyHouse::new, (h, machines) -> h.share(machines));
    }

    private static void machineFacts() {
        Due.says(33, "- `what`: 0 its LOAD, 1 its PAGES, 2 the FLOOR of its first PAGE (NONE without PAGES)");
        CurvekeyHouse house = five();
        house.share(4);
        int[][] due = {{2, 2, 0}, {1, 1, 2}, {1, 1, 3}, {2, 1, 4}};
        for (int machine = 0; machine < 4; machine++) {
            machineIs(house, "five pages by 4", machine, due[machine]);
        }
        CurvekeyHouse one = Stores.rows(3, 8, 7, 9);
        one.share(4);
        machineIs(one, "one page by 4", 0, 2, 1, 0);
        for (int machine = 1; machine < 4; machine++) {
            machineIs(one, "one page by 4", machine, 0, 0, -1);
        }
        CurvekeyHouse two = Stores.rows(3, 2, 7, 8, 9);
        two.share(4);
        machineIs(two, "two pages by 4", 0, 1, 1, 0);
        machineIs(two, "two pages by 4", 1, 0, 0, -1);
        machineIs(two, "two pages by 4", 2, 2, 1, 8);
        machineIs(two, "two pages by 4", 3, 0, 0, -1);
        two.remove(1);
        two.remove(2);
        machineIs(two, "tombs alone", 2, 0, 1, 8);
        machineIs(new CurvekeyHouse(), "an empty store", 0, 0, 1, 0);
        CurvekeyHouse full = Stores.full();
        machineIs(full, "a full store", 0, 80, full.many(5), 0);
    }

    private static void machineIs(CurvekeyHouse house, String when, int machine, int... want) {
        for (int what = 0; what < 3; what++) {
            int w = what;
            Due.is(want[w], when + ": ofMachine(" + machine + ", " + w + ")", () -> house.ofMachine(machine, w));
        }
    }

    private static CurvekeyHouse shared(int machines) {
        CurvekeyHouse house = five();
        house.share(machines);
        return house;
    }

    private static void machineRefused() {
        Due.says(33, "Throws `IndexOutOfBoundsException` if there is no such MACHINE");
        for (int machines = 1; machines <= 4; machines++) {
            int m = machines;
            Due.ranges(0, m - 1, INDEX, "ofMachine of " + m, () -> shared(m), (h, machine) -> h.ofMachine(machine, 2));
        }
        Due.ranges(0, 0, INDEX, "ofMachine at first", CurvekeyHouse::new, (h, machine) -> h.ofMachine(machine, 0));
        Due.refuses(INDEX, "ofMachine of none, of no such thing", Stores::busy, h -> h.ofMachine(3, 3));
        Due.refuses(INDEX, "ofMachine of none, of no such thing", Stores::busy, h -> h.ofMachine(-1, -1));
        Due.says(33, "Throws `IllegalArgumentException` if what is not 0 to 2");
        Due.ranges(0, 2, ARGUMENT, "ofMachine of what", Stores::busy, (h, what) -> h.ofMachine(2, what));
    }

    private static void skews() {
        Due.says(34, "Returns the greatest LOAD, less the smallest one.");
        Due.is(0, "an empty store", () -> new CurvekeyHouse().skew());
        Due.is(0, "one machine", () -> Stores.full().skew());
        int[] due = {0, 0, 0, 0, 1};
        for (int machines = 1; machines <= 4; machines++) {
            int m = machines;
            Due.is(due[m], "6, 3 and 3, 2 and 2 and 2, or 2, 1, 1 and 2", () -> shared(m).skew());
        }
        CurvekeyHouse one = Stores.rows(3, 8, 7, 9);
        one.share(2);
        Due.is(2, "one without pages has no load", one::skew);
        one.remove(0);
        Due.is(1, "of those that live", one::skew);
        CurvekeyHouse falling = shared(4);
        falling.remove(5);
        falling.remove(4);
        Due.is(2, "2, 1, 1 and 0", falling::skew);
        CurvekeyHouse four = shared(4);
        four.remove(2);
        Due.is(2, "2, 0, 1 and 2", four::skew);
        four.remove(0);
        four.remove(1);
        Due.is(2, "0, 0, 1 and 2", four::skew);
    }

    private static void densities() {
        Due.says(35, "Returns how many POINTS LIVE in it.");
        Due.is(0, "an empty plane", () -> new CurvekeyHouse().density(0, 0));
        Due.is(80, "a full store", () -> Stores.full().density(0, 0));
        Due.is(40, "five rows of 8", () -> Stores.full().density(1, 1));
        Due.is(0, "above them", () -> Stores.full().density(1, 2));
        Due.is(1, "the last place of 80", () -> Stores.full().density(4, 79));
        Due.is(0, "the place behind it", () -> Stores.full().density(4, 80));
        Due.is(1, "the last place of all", () -> Stores.rows(5, 2, 1023).density(5, 1023));
        CurvekeyHouse house = Stores.oneGone();
        Due.is(2, "those that live", () -> house.density(0, 0));
        Due.is(0, "where one is gone", () -> house.density(2, 1));
        Due.is(1, "where one lives", () -> house.density(2, 2));
        Due.is(0, "where one was", () -> Stores.oneMoved().density(2, 1));
        Due.is(1, "where it is", () -> Stores.oneMoved().density(2, 15));
    }

    /** No level, or no cell of it, for each call that asks for one. */
    private static void noCells(String name, CellCall call) {
        Due.ranges(0, 3, ARGUMENT, name + " of the level", Stores::busy, (h, level) -> call.ask(h, level, 0));
        int[] cells = {1, 4, 16, 64};
        for (int level = 0; level <= 3; level++) {
            int l = level;
            Due.ranges(0, cells[l] - 1, ARGUMENT, name + " of the cell, level " + l, Stores::busy,
                (h, cell) -> call.ask(h, l, cell));
        }
        Due.ranges(0, 1, ARGUMENT, name + " of the level", Stores::crowded, (h, level) -> call.ask(h, level, 0));
        Due.ranges(0, 1023, ARGUMENT, name + " of the cell", () -> Stores.empty(5, 1, 2), (h, cell) -> call.ask(h, 5, cell));
        // levels at which a shift wraps around
        for (int level : new int[] {15, 16, 31, 32, 64, -32}) {
            Due.refuses(ARGUMENT, name + " of the level " + level, Stores::busy, h -> call.ask(h, level, 0));
        }
    }

    private interface CellCall {
        long ask(CurvekeyHouse house, int level, int cell);
    }

    private static void densityRefused() {
        Due.says(35, "Throws `IllegalArgumentException` if level is not 0 to ORDER, or there is no such CELL");
        noCells("density", CurvekeyHouse::density);
    }

    private static void fullestReturns() {
        Due.says(36, "Returns that (of several CELLS the first one).");
        CurvekeyHouse house = Stores.rows(2, 8, 3, 7, 12, 13, 10);
        // quarters: none, 3 and 7, 12 and 13, 10
        int[][] due = {{0, 0, 0}, {1, 1, 1}, {2, 3, 11}};
        for (int[] d : due) {
            Due.is(d[1], "the fullest of the level " + d[0], () -> house.fullest(d[0], true));
            Due.is(d[2], "empty ones of the level " + d[0], () -> house.fullest(d[0], false));
        }
        house.put(2, 3);
        Due.is(1, "three as full", () -> house.fullest(1, true));
        house.put(3, 3);
        Due.is(3, "the last quarter", () -> house.fullest(1, true));
        house.remove(6);
        house.remove(0);
        Due.is(2, "of those that live", () -> house.fullest(1, true));
        Due.says(36, "- `isMost`: whether the CELL with the most POINTS that LIVE, otherwise how many CELLS have none");
        for (int level = 0; level <= 3; level++) {
            int l = level;
            Due.is(0, "without points the first one, level " + l, () -> new CurvekeyHouse().fullest(l, true));
            Due.is(1L << 2 * l, "without points all, level " + l, () -> new CurvekeyHouse().fullest(l, false));
        }
        Due.is(0, "a full plane has none", () -> Stores.crowded().fullest(1, false));
        Due.is(176, "places that a full store leaves", () -> Stores.full().fullest(4, false));
        Due.is(1023, "the last place", () -> Stores.rows(5, 2, 1023).fullest(5, true));
        Due.is(1023, "the others", () -> Stores.rows(5, 2, 1023).fullest(5, false));
        Due.is(15, "where one moved to", () -> lastOnly().fullest(2, true));
    }

    private static CurvekeyHouse lastOnly() {
        CurvekeyHouse house = Stores.oneMoved();
        house.remove(0);
        house.remove(2);
        return house;
    }

    private static void fullestRefused() {
        Due.says(36, "Throws `IllegalArgumentException` if level is not 0 to ORDER");
        for (boolean isMost : new boolean[] {true, false}) {
            Due.ranges(0, 3, ARGUMENT, "fullest of the level", Stores::busy, (h, level) -> h.fullest(level, isMost));
            Due.ranges(0, 1, ARGUMENT, "fullest of the level", Stores::crowded, (h, level) -> h.fullest(level, isMost));
            Due.ranges(0, 5, ARGUMENT, "fullest of the level", () -> Stores.empty(5, 1, 2),
                (h, level) -> h.fullest(level, isMost));
        }
    }

    private static void blurReturns() {
        Due.says(37, "Returns its BLUR; NONE, if there is none.");
        CurvekeyHouse one = Stores.rows(5, 2, 1023);
        Due.is(5, "one alone for 1", () -> one.blur(0, 1));
        Due.is(-1, "one alone for 2", () -> one.blur(0, 2));
        Due.is(-1, "one alone for 80", () -> one.blur(0, 80));
        CurvekeyHouse full = Stores.full();
        Due.is(0, "all for 80", () -> full.blur(0, 80));
        Due.is(0, "for 41", () -> full.blur(0, 41));
        Due.is(1, "for 40, five rows of 8", () -> full.blur(0, 40));
        Due.is(2, "for 16", () -> full.blur(0, 16));
        Due.is(1, "for 17", () -> full.blur(0, 17));
        Due.is(3, "for 4", () -> full.blur(0, 4));
        Due.is(4, "for 1", () -> full.blur(79, 1));
        Due.is(3, "for 2, in the half-full square of the last row", () -> full.blur(79, 2));
        full.remove(1);
        Due.is(-1, "79 live, for 80", () -> full.blur(0, 80));
        Due.is(0, "79 live, for 79", () -> full.blur(0, 79));
        Due.is(1, "one of its cell is gone, for 16", () -> full.blur(0, 16));
    }

    private static void blurRefused() {
        Due.says(37, "Throws `IndexOutOfBoundsException` if there is no such POINT");
        Due.ranges(0, 10, INDEX, "blur of the point", Stores::busy, (h, point) -> h.blur(point, 1));
        Due.refuses(INDEX, "blur of none", CurvekeyHouse::new, h -> h.blur(0, 1));
        Due.refuses(INDEX, "blur of none for 0", Stores::busy, h -> h.blur(11, 0));
        Due.refuses(INDEX, "blur of none for 81", Stores::busy, h -> h.blur(-1, 81));
        Due.says(37, "Throws `IllegalArgumentException` if k is not 1 to 80");
        Due.ranges(1, 80, ARGUMENT, "blur for k", Stores::busy, (h, k) -> h.blur(10, k));
        Due.refuses(ARGUMENT, "blur of one that is gone for 0", Stores::busy, h -> h.blur(1, 0));
        Due.refuses(ARGUMENT, "blur of one that is gone for 81", Stores::busy, h -> h.blur(4, 81));
        Due.says(37, "Throws `IllegalStateException` if it does not LIVE");
        Due.refuses(STATE, "blur of one that is gone", Stores::busy, h -> h.blur(1, 1));
        Due.refuses(STATE, "blur of one that is gone", Stores::busy, h -> h.blur(4, 80));
    }

    private static void drawReturns() {
        Due.says(38, "Returns what it tells.");
        Due.is(0, "an empty plane", () -> new CurvekeyHouse().draw(0, 0));
        Due.is(80, "a full store", () -> Stores.full().draw(0, 0));
        Due.is(1, "the last place", () -> Stores.rows(5, 2, 1023).draw(5, 1023));
        CurvekeyHouse house = Stores.drawn();
        Due.is(20, "TILES", () -> house.many(12));
        house.put(1, 0);
        Due.is(4, "one of 20 is drawn anew", () -> house.draw(0, 0));
        Due.is(20, "TILES", () -> house.many(12));
        Due.is(4, "what it tells", () -> house.tile(0, 0, false));
        Due.is(2, "STALE are 1 0 and 2 1", () -> house.many(13));
    }

    private static void drawRefused() {
        Due.says(38, "Throws `IllegalArgumentException` if level is not 0 to ORDER, or there is no such CELL");
        noCells("draw", CurvekeyHouse::draw);
        Due.refuses(ARGUMENT, "draw of no cell behind the 20th", Stores::drawn, h -> h.draw(1, 4));
        Due.refuses(ARGUMENT, "draw of no level behind the 20th", Stores::drawn, h -> h.draw(3, 0));
    }

    private static void twentyTiles() {
        Due.says(38, "Throws `IllegalStateException` if it is not drawn, and 20 others are");
        Due.refuses(STATE, "draw of a 21st", Stores::drawn, h -> h.draw(1, 3));
        for (int level = 0; level <= 2; level++) {
            for (int cell = 0; cell < 1 << 2 * level; cell++) {
                int l = level;
                int c = cell;
                if (level != 1 || cell != 3) {
                    Due.allows("one of 20 anew: " + l + " " + c, Stores::drawn, h -> h.draw(l, c));
                }
            }
        }
        CurvekeyHouse house = Stores.empty(5, 0, 2);
        for (int cell = 0; cell < 19; cell++) {
            house.draw(5, cell);
        }
        Due.is(19, "TILES", () -> house.many(12));
        Due.is(0, "a 20th", () -> house.draw(5, 1023));
        Due.is(20, "TILES", () -> house.many(12));
        Due.text(STATE.getName(), "a 21st", Picture.thrownBy(house, h -> h.draw(5, 19)));
        Due.is(-1, "it is not drawn", () -> house.tile(5, 19, true));
        house.found(5, 0, 2);
        Due.is(0, "a store founded anew has room", () -> house.draw(5, 19));
        Due.is(1, "TILES", () -> house.many(12));
    }

    private static void tileReturns() {
        Due.says(39, "Returns that; NONE, if it is not drawn.");
        CurvekeyHouse house = Stores.drawn();
        for (boolean isStale : new boolean[] {true, false}) {
            Due.is(-1, "the one that is not drawn", () -> house.tile(1, 3, isStale));
            Due.is(-1, "none is drawn", () -> new CurvekeyHouse().tile(0, 0, isStale));
            Due.is(-1, "the last place", () -> Stores.empty(5, 0, 2).tile(5, 1023, isStale));
        }
        Due.says(39, "- `isStale`: whether 1, if it is STALE, 0, if not; otherwise what it tells");
        house.remove(2);
        Due.is(1, "the plane is stale", () -> house.tile(0, 0, true));
        Due.is(3, "it tells 3", () -> house.tile(0, 0, false));
        Due.is(1, "the place is stale", () -> house.tile(2, 15, true));
        Due.is(1, "it tells 1", () -> house.tile(2, 15, false));
        Due.is(0, "another place is not", () -> house.tile(2, 5, true));
        Due.is(1, "it tells 1", () -> house.tile(2, 5, false));
        Due.is(0, "a quarter is not", () -> house.tile(1, 2, true));
        Due.is(0, "it tells 0", () -> house.tile(1, 2, false));
        Due.is(2, "the first quarter tells 2", () -> house.tile(1, 0, false));
    }

    private static void tileRefused() {
        Due.says(39, "Throws `IllegalArgumentException` if level is not 0 to ORDER, or there is no such CELL");
        noCells("tile, whether stale", (h, level, cell) -> h.tile(level, cell, true));
        noCells("tile, what it tells", (h, level, cell) -> h.tile(level, cell, false));
    }

    private static void rivalFacts() {
        Due.says(40, "- `what`: 0 LEAVES of the RIVAL, 1 the greatest depth of one (the plane has 0), "
            + "2 LEAVES without a POINT");
        rivalIs(new CurvekeyHouse(), "the plane alone", 1, 0, 1);
        rivalIs(Stores.rows(3, 2, 0, 63), "with CAPACITY points", 1, 0, 0);
        rivalIs(Stores.rows(3, 2, 0, 7, 63), "in three quarters", 4, 1, 1);
        rivalIs(Stores.rows(3, 2, 0, 7, 56, 63), "in four quarters", 4, 1, 0);
        rivalIs(Stores.rows(3, 2, 63, 62, 55), "in the last square of 2", 10, 3, 7);
        rivalIs(Stores.rows(3, 2, 0, 1, 8), "in the first square of 2", 10, 3, 7);
        rivalIs(Stores.rows(3, 2, 7, 6, 15), "in the square of 2 at the last x", 10, 3, 7);
        rivalIs(Stores.rows(3, 2, 56, 57, 48), "in the square of 2 at the last y", 10, 3, 7);
        rivalIs(Stores.rows(3, 2, 0, 1, 8, 63, 62, 55), "in the first one too", 16, 3, 10);
        rivalIs(Stores.full(), "a full store", 22, 3, 2);
        rivalIs(Stores.oneGone(), "of those that live", 1, 0, 0);
    }

    private static void rivalRefused() {
        Due.says(40, "Throws `IllegalArgumentException` if what is not 0 to 2");
        Due.ranges(0, 2, ARGUMENT, "rival of what", Stores::busy, (h, what) -> h.rival(what));
        Due.ranges(0, 2, ARGUMENT, "rival of what", CurvekeyHouse::new, (h, what) -> h.rival(what));
    }

    private static void rivalReads() {
        Due.says(41, "Returns how many LEAVES of the RIVAL have a PLACE in it.");
        // the quarters 0, 1 and 2 of the side 4, three squares of 2, four places
        CurvekeyHouse house = Stores.rows(3, 2, 63, 62, 55);
        int[][] due = {{0, 0, 8, 8, 10}, {0, 0, 4, 4, 1}, {3, 3, 1, 1, 1}, {3, 3, 2, 1, 2}, {3, 3, 1, 2, 2}, {3, 3, 2, 2, 4},
            {4, 4, 2, 2, 1}, {4, 4, 3, 1, 2}, {5, 5, 2, 2, 4}, {6, 6, 2, 2, 4}, {6, 6, 1, 1, 1}, {7, 7, 1, 1, 1},
            {4, 4, 4, 4, 7}, {7, 0, 1, 8, 4}, {0, 7, 8, 1, 4}, {0, 0, 1, 8, 2}, {5, 6, 2, 1, 2}, {6, 5, 1, 2, 2}};
        for (int[] d : due) {
            Due.is(d[4], "rivalReads(" + d[0] + ", " + d[1] + ", " + d[2] + ", " + d[3] + ")",
                () -> house.rivalReads(d[0], d[1], d[2], d[3]));
        }
        Due.is(1, "the plane alone", () -> new CurvekeyHouse().rivalReads(7, 7, 1, 1));
        Due.is(1, "three points by CAPACITY 3, in two pages", () -> fourThenThree().rivalReads(0, 0, 8, 8));
        Due.is(4, "four points by CAPACITY 3", () -> Stores.rows(3, 3, 0, 1, 62, 63).rivalReads(0, 0, 8, 8));
        Due.is(22, "all of a full store", () -> Stores.full().rivalReads(0, 0, 16, 16));
        Due.changesNothing("rivalReads", Stores::busy, h -> h.rivalReads(0, 0, 8, 8));
    }

    private static CurvekeyHouse fourThenThree() {
        CurvekeyHouse house = Stores.rows(3, 3, 0, 1, 62, 63);
        house.remove(1);
        return house;
    }

    private static void rivalReadsRefused() {
        Due.says(41, "Throws `IllegalArgumentException` if it is no BOX on the plane");
        Due.ranges(0, 7, ARGUMENT, "rivalReads at x", Stores::busy, (h, x) -> h.rivalReads(x, 0, 1, 1));
        Due.ranges(0, 7, ARGUMENT, "rivalReads at y", Stores::busy, (h, y) -> h.rivalReads(0, y, 1, 1));
        Due.ranges(1, 4, ARGUMENT, "rivalReads of wide at 4", Stores::busy, (h, wide) -> h.rivalReads(4, 4, wide, 1));
        Due.ranges(1, 4, ARGUMENT, "rivalReads of high at 4", Stores::busy, (h, high) -> h.rivalReads(4, 4, 1, high));
    }
}
