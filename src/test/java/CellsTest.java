/** Promises 32 to 41: machines, cells, blurs, tiles and the rival. */
public final class CellsTest {
    private static final Class<?> ARGUMENT = IllegalArgumentException.class;
    private static final Class<?> STATE = IllegalStateException.class;
    private static final Class<?> INDEX = IndexOutOfBoundsException.class;

    public static void main(String[] args) {
        machines();
        density();
        fullest();
        blur();
        draw();
        stale();
        rival();
        rivalReads();
        Due.end();
    }

    private static CurvekeyHouse store(int order, int curve, int capacity) {
        CurvekeyHouse house = new CurvekeyHouse();
        house.found(order, curve, capacity);
        return house;
    }

    private static void machines() {
        CurvekeyHouse house = store(2, 0, 2);
        Due.is(0, "share(4) of one page", () -> house.share(4));
        Due.is(1, "PAGES of machine 0", () -> house.ofMachine(0, 1));
        Due.is(0, "PAGES of machine 3", () -> house.ofMachine(3, 1));
        Due.is(-1, "no floor", () -> house.ofMachine(3, 2));
        Due.is(0, "share(1)", () -> house.share(1));
        house.bulk(6, 1);
        Due.is(4, "PAGES", () -> house.many(5));
        Due.is(2, "share(2): pages 2 and 3", () -> house.share(2));
        Due.is(2, "LOAD 0", () -> house.ofMachine(0, 0));
        Due.is(4, "LOAD 1", () -> house.ofMachine(1, 0));
        Due.is(2, "PAGES 1", () -> house.ofMachine(1, 1));
        Due.is(4, "FLOOR 1", () -> house.ofMachine(1, 2));
        Due.is(2, "skew", house::skew);
        Due.is(1, "its machine", () -> house.ofPage(3, 5));
        Due.is(0, "share(2) again", () -> house.share(2));
        Due.is(3, "share(4)", () -> house.share(4));
        Due.is(4, "MACHINES", () -> house.many(11));
        for (int m = 0; m < 4; m++) {
            int each = m;
            Due.is(m, "page " + m, () -> house.ofPage(each, 5));
        }
        Due.is(1, "skew", house::skew);
        house.remove(0);
        house.remove(1);
        Due.is(2, "skew of those that live", house::skew);
        Due.is(0, "LOAD without tombs", () -> house.ofMachine(0, 0));
        Due.fails(INDEX, "machine 4", house, () -> house.ofMachine(4, 0));
        Due.fails(INDEX, "machine -1", house, () -> house.ofMachine(-1, 0));
        Due.fails(INDEX, "both wrong", house, () -> house.ofMachine(4, 3));
        Due.fails(ARGUMENT, "what 3", house, () -> house.ofMachine(3, 3));
        Due.fails(ARGUMENT, "what -1", house, () -> house.ofMachine(0, -1));
        house.remove(5);
        house.remove(2);
        house.remove(4);
        house.put(0, 0);
        Due.is(1, "skew of 1 0 1 0", house::skew);
        house.share(1);
        Due.is(0, "skew of one", house::skew);
        Due.fails(INDEX, "machine 1 of 1", house, () -> house.ofMachine(1, 0));
        for (int wrong : new int[] {-1, 0, 5, Integer.MAX_VALUE, Integer.MIN_VALUE}) {
            Due.fails(ARGUMENT, "share(" + wrong + ")", house, () -> house.share(wrong));
        }
    }

    private static CurvekeyHouse three() {
        CurvekeyHouse house = store(2, 2, 2);
        house.put(0, 0);
        house.put(1, 1);
        house.put(3, 3);
        return house;
    }

    private static void density() {
        CurvekeyHouse house = three();
        int[][] due = {{0, 0, 3}, {1, 0, 2}, {1, 1, 0}, {1, 2, 0}, {1, 3, 1}, {2, 0, 1}, {2, 5, 1}, {2, 15, 1}, {2, 1, 0}};
        for (int[] d : due) {
            Due.is(d[2], "density(" + d[0] + ", " + d[1] + ")", () -> house.density(d[0], d[1]));
        }
        house.move(2, 3, 0);
        Due.is(1, "row by row", () -> house.density(1, 1));
        house.remove(0);
        Due.is(1, "those that live", () -> house.density(1, 0));
        noCells(house);
    }

    private static void noCells(CurvekeyHouse house) {
        int[][] wrong = {{-1, 0}, {3, 0}, {0, 1}, {1, 4}, {2, 16}, {0, -1}, {2, -1}, {Integer.MAX_VALUE, 0},
            {Integer.MIN_VALUE, 0}, {1, Integer.MAX_VALUE}, {15, 0}, {16, 0}, {32, 0}};
        for (int[] w : wrong) {
            String cell = "(" + w[0] + ", " + w[1] + ")";
            Due.fails(ARGUMENT, "density" + cell, house, () -> house.density(w[0], w[1]));
            Due.fails(ARGUMENT, "draw" + cell, house, () -> house.draw(w[0], w[1]));
            Due.fails(ARGUMENT, "tile" + cell, house, () -> house.tile(w[0], w[1], true));
            Due.fails(ARGUMENT, "tile" + cell, house, () -> house.tile(w[0], w[1], false));
        }
    }

    private static void fullest() {
        CurvekeyHouse house = three();
        Due.is(0, "fullest(0, true)", () -> house.fullest(0, true));
        Due.is(0, "fullest(0, false)", () -> house.fullest(0, false));
        Due.is(0, "fullest(1, true)", () -> house.fullest(1, true));
        Due.is(2, "fullest(1, false)", () -> house.fullest(1, false));
        Due.is(0, "of several the first one", () -> house.fullest(2, true));
        Due.is(13, "fullest(2, false)", () -> house.fullest(2, false));
        house.remove(0);
        Due.is(0, "of two with one each", () -> house.fullest(1, true));
        house.remove(1);
        Due.is(3, "the last quarter", () -> house.fullest(1, true));
        house.remove(2);
        house.put(2, 1);
        Due.is(1, "the second quarter", () -> house.fullest(1, true));
        house.remove(3);
        Due.is(0, "without points", () -> house.fullest(2, true));
        Due.is(16, "all are empty", () -> house.fullest(2, false));
        for (int wrong : new int[] {-1, 3, Integer.MAX_VALUE, Integer.MIN_VALUE}) {
            Due.fails(ARGUMENT, "fullest(" + wrong + ", true)", house, () -> house.fullest(wrong, true));
            Due.fails(ARGUMENT, "fullest(" + wrong + ", false)", house, () -> house.fullest(wrong, false));
        }
    }

    private static void blur() {
        CurvekeyHouse house = three();
        int[][] due = {{0, 1, 2}, {0, 2, 1}, {0, 3, 0}, {0, 4, -1}, {0, 80, -1}, {2, 1, 2}, {2, 2, 0}};
        for (int[] d : due) {
            Due.is(d[2], "blur(" + d[0] + ", " + d[1] + ")", () -> house.blur(d[0], d[1]));
        }
        for (int wrong : new int[] {-1, 0, 81, Integer.MAX_VALUE}) {
            Due.fails(ARGUMENT, "blur(0, " + wrong + ")", house, () -> house.blur(0, wrong));
        }
        Due.fails(INDEX, "blur(3, 0)", house, () -> house.blur(3, 0));
        Due.fails(INDEX, "blur(-1, 1)", house, () -> house.blur(-1, 1));
        house.remove(1);
        Due.fails(STATE, "one that is gone", house, () -> house.blur(1, 1));
        Due.fails(ARGUMENT, "one that is gone, for 0", house, () -> house.blur(1, 0));
        Due.is(0, "those that live", () -> house.blur(0, 2));
    }

    private static void draw() {
        CurvekeyHouse house = three();
        Due.is(-1, "not drawn", () -> house.tile(1, 0, true));
        Due.is(-1, "not drawn", () -> house.tile(1, 0, false));
        Due.is(2, "draw(1, 0)", () -> house.draw(1, 0));
        Due.is(2, "draw again", () -> house.draw(1, 0));
        Due.is(1, "one tile", () -> house.many(12));
        for (int cell = 0; cell < 16; cell++) {
            house.draw(2, cell);
        }
        house.draw(0, 0);
        house.draw(1, 1);
        Due.is(19, "TILES", () -> house.many(12));
        Due.is(0, "the 20th", () -> house.draw(1, 2));
        Due.fails(STATE, "a 21st", house, () -> house.draw(1, 3));
        Due.fails(ARGUMENT, "a 21st that is none", house, () -> house.draw(1, 4));
        Due.is(-1, "it is not drawn", () -> house.tile(1, 3, false));
        house.put(1, 0);
        Due.is(4, "one of them anew", () -> house.draw(0, 0));
        Due.is(20, "TILES", () -> house.many(12));
        Due.is(2, "STALE: 1 0 and 2 1", () -> house.many(13));
    }

    private static void stale() {
        CurvekeyHouse house = three();
        house.draw(0, 0);
        house.draw(1, 0);
        house.draw(1, 1);
        house.draw(1, 3);
        Due.is(0, "none is old", () -> house.many(13));
        house.put(0, 1);
        tiles(house, "put", 1, 1, 0, 0);
        Due.is(2, "it tells what it told", () -> house.tile(1, 0, false));
        Due.is(3, "anew", () -> house.draw(1, 0));
        Due.is(0, "it is not old", () -> house.tile(1, 0, true));
        house.draw(0, 0);
        house.move(2, 2, 0);
        tiles(house, "moved, either place", 1, 0, 1, 1);
        redraw(house);
        house.move(2, 2, 0);
        tiles(house, "moved to its own place", 0, 0, 0, 0);
        house.move(0, 1, 0);
        tiles(house, "moved within", 1, 1, 0, 0);
        redraw(house);
        house.speed(2, 0, 3);
        tiles(house, "a speed told", 0, 0, 0, 0);
        house.tick(1);
        tiles(house, "a tick", 1, 0, 1, 1);
        redraw(house);
        house.tick(1);
        tiles(house, "a tick that moves none", 0, 0, 0, 0);
        house.remove(2);
        tiles(house, "taken away", 1, 0, 0, 1);
        house.sweep();
        tiles(house, "swept", 1, 0, 0, 1);
    }

    private static void redraw(CurvekeyHouse house) {
        house.draw(0, 0);
        house.draw(1, 0);
        house.draw(1, 1);
        house.draw(1, 3);
    }

    private static void tiles(CurvekeyHouse house, String after, int all, int first, int second, int last) {
        Due.is(all, after + ": 0 0", () -> house.tile(0, 0, true));
        Due.is(first, after + ": 1 0", () -> house.tile(1, 0, true));
        Due.is(second, after + ": 1 1", () -> house.tile(1, 1, true));
        Due.is(last, after + ": 1 3", () -> house.tile(1, 3, true));
        Due.is(all + first + second + last, after + ": all", () -> house.many(13));
    }

    private static void rival() {
        CurvekeyHouse house = store(2, 2, 2);
        rivals(house, "empty", 1, 0, 1);
        house.put(0, 0);
        house.put(1, 1);
        rivals(house, "two", 1, 0, 0);
        house.put(3, 3);
        rivals(house, "three", 4, 1, 2);
        house.put(0, 1);
        rivals(house, "four", 7, 2, 3);
        house.remove(0);
        rivals(house, "one gone", 4, 1, 2);
        house.found(5, 0, 2);
        house.put(31, 31);
        house.put(30, 31);
        house.put(31, 30);
        rivals(house, "three in a far corner", 16, 5, 13);
        house.found(4, 0, 3);
        house.put(3, 9);
        house.put(3, 10);
        house.put(2, 10);
        house.put(2, 11);
        rivals(house, "four within the side 4, not within 2", 10, 3, 8);
        house.found(1, 0, 2);
        house.bulk(40, 1);
        house.bulk(40, 2);
        rivals(house, "a side of 1 is no more than a leaf", 4, 1, 0);
        for (int wrong : new int[] {-1, 3, Integer.MAX_VALUE, Integer.MIN_VALUE}) {
            Due.fails(ARGUMENT, "rival(" + wrong + ")", house, () -> house.rival(wrong));
        }
    }

    private static void rivals(CurvekeyHouse house, String when, int leaves, int depth, int empty) {
        Due.is(leaves, when + ": LEAVES", () -> house.rival(0));
        Due.is(depth, when + ": depth", () -> house.rival(1));
        Due.is(empty, when + ": without a point", () -> house.rival(2));
    }

    private static void rivalReads() {
        CurvekeyHouse house = three();
        house.put(0, 1);
        int[][] due = {{0, 0, 1, 1, 1}, {0, 0, 2, 2, 4}, {0, 0, 4, 4, 7}, {1, 1, 2, 1, 2}, {2, 2, 2, 2, 1}, {1, 1, 2, 2, 4}};
        for (int[] d : due) {
            Due.is(d[4], "rivalReads(" + d[0] + ", " + d[1] + ", " + d[2] + ", " + d[3] + ")",
                () -> house.rivalReads(d[0], d[1], d[2], d[3]));
        }
        Due.is(0, "nothing is counted", () -> house.many(9));
        int[][] wrong = {{-1, 0, 1, 1}, {0, 4, 1, 1}, {0, 0, 0, 1}, {0, 0, 1, 5}, {3, 3, 1, 2}, {1, 1, Integer.MAX_VALUE, 1}};
        for (int[] w : wrong) {
            Due.fails(ARGUMENT, "rivalReads of no box", house, () -> house.rivalReads(w[0], w[1], w[2], w[3]));
        }
    }
}
