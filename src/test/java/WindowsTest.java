/** Promises 18 to 21: windows cut, searched, and asked of another time. */
public final class WindowsTest {
    private static final Class<?> ARGUMENT = IllegalArgumentException.class;
    /** No boxes on a plane of the side 4. */
    private static final int[][] NO_BOXES = {{-1, 0, 1, 1}, {0, -1, 1, 1}, {4, 0, 1, 1}, {0, 4, 1, 1}, {0, 0, 0, 1},
        {0, 0, 1, 0}, {0, 0, 5, 1}, {0, 0, 1, 5}, {1, 0, 4, 1}, {0, 1, 1, 4}, {1, 1, Integer.MAX_VALUE, 1},
        {1, 1, 1, Integer.MAX_VALUE}, {Integer.MIN_VALUE, 0, Integer.MAX_VALUE, 1}};

    public static void main(String[] args) {
        cut();
        search();
        asOf();
        soon();
        Due.end();
    }

    private static CurvekeyHouse rows() {
        CurvekeyHouse house = new CurvekeyHouse();
        house.found(2, 0, 2);
        return house;
    }

    private static void cut() {
        CurvekeyHouse house = rows();
        // a column: 0 0, 4 4, 8 8, 12 12, with gaps of 3
        int[][] due = {{4, 4, 0, 1, 12}, {99, 4, 0, 1, 12}, {3, 3, 3, 1, 12}, {2, 2, 6, 1, 12}, {1, 1, 9, 1, 0}};
        for (int[] d : due) {
            for (int what = 0; what < 4; what++) {
                int w = what;
                Due.is(d[w + 1], "cut(0, 0, 1, 4, " + d[0] + ", " + w + ")", () -> house.cut(0, 0, 1, 4, d[0], w));
            }
        }
        Due.is(0, "cut of the first gap first: 0 to 4, 8, 12", () -> house.cut(0, 0, 1, 2, 1, 3));
        for (int x = 0; x < 4; x++) {
            house.put(x, 1);
        }
        // pages 4, 5, 6 7 with floors 0, 5, 6
        Due.is(3, "PAGES", () -> house.many(5));
        Due.is(2, "pages of a column: 0 and 4, 8 and 12", () -> house.cut(0, 0, 1, 4, 99, 2));
        Due.is(3, "pages of a column as one run", () -> house.cut(0, 0, 1, 4, 1, 2));
        Due.is(1, "pages of 5", () -> house.cut(1, 1, 1, 1, 1, 2));
        Due.is(0, "nothing is counted", () -> house.many(9));
        Due.is(0, "no search", () -> house.many(10));
        smallestGapFirst();
        for (int[] b : NO_BOXES) {
            Due.fails(ARGUMENT, "cut of no box", house, () -> house.cut(b[0], b[1], b[2], b[3], 1, 0));
        }
        for (int wrong : new int[] {-1, 0, 100, Integer.MAX_VALUE}) {
            Due.fails(ARGUMENT, "cut for " + wrong, house, () -> house.cut(0, 0, 1, 1, wrong, 0));
        }
        Due.fails(ARGUMENT, "cut what 4", house, () -> house.cut(0, 0, 1, 1, 1, 4));
        Due.fails(ARGUMENT, "cut what -1", house, () -> house.cut(0, 0, 1, 1, 1, -1));
    }

    private static void smallestGapFirst() {
        CurvekeyHouse house = new CurvekeyHouse();
        house.found(2, 1, 2);
        // a column of the snake at x 1: keys 1, 6, 9, 14 with gaps of 4, 2, 4
        Due.is(4, "RUNS", () -> house.cut(1, 0, 1, 4, 9, 0));
        Due.is(2, "the smallest gap", () -> house.cut(1, 0, 1, 4, 3, 1));
        Due.is(14, "the last run", () -> house.cut(1, 0, 1, 4, 3, 3));
        Due.is(2, "the last gap, if it is the smallest", () -> house.cut(1, 0, 1, 3, 2, 1));
        Due.is(6, "with the run ahead of it", () -> house.cut(1, 0, 1, 3, 2, 3));
        Due.is(6, "then the first of the others", () -> house.cut(1, 0, 1, 4, 2, 1));
        Due.is(14, "so the last run stays", () -> house.cut(1, 0, 1, 4, 2, 3));
    }

    private static void search() {
        CurvekeyHouse house = rows();
        house.bulk(12, 1);
        int living = house.many(4);
        Due.is(living, "search of all", () -> house.search(0, 0, 4, 4, 1));
        Due.is(house.many(5), "all pages are read", () -> house.many(9));
        int read = house.many(9) + house.cut(0, 0, 1, 4, 2, 2);
        Due.is(house.density(2, 0) + house.density(2, 4) + house.density(2, 8) + house.density(2, 12),
            "search of a column", () -> house.search(0, 0, 1, 4, 2));
        Due.is(read, "PAGES READ", () -> house.many(9));
        Due.is(2, "SEARCHES", () -> house.many(10));
        house.remove(0);
        Due.is(living - 1, "only those that live", () -> house.search(0, 0, 4, 4, 99));
        for (int[] b : NO_BOXES) {
            Due.fails(ARGUMENT, "search of no box", house, () -> house.search(b[0], b[1], b[2], b[3], 1));
        }
        for (int wrong : new int[] {-1, 0, 100, Integer.MIN_VALUE}) {
            Due.fails(ARGUMENT, "search for " + wrong, house, () -> house.search(0, 0, 1, 1, wrong));
        }
        Due.is(3, "SEARCHES", () -> house.many(10));
        CurvekeyHouse moving = rows();
        moving.put(1, 1);
        moving.speed(0, 2, 0);
        Due.is(1, "where it is, not where it would be", () -> moving.search(1, 1, 1, 1, 1));
    }

    private static void asOf() {
        CurvekeyHouse house = rows();
        house.put(0, 0);
        house.put(1, 0);
        house.move(0, 3, 3);
        house.remove(1);
        int[][] due = {{0, 0, 0, 0}, {1, 1, 1, 0}, {2, 2, 1, 0}, {3, 2, 0, 1}, {4, 1, 0, 1}};
        for (int[] d : due) {
            Due.is(d[1], "all as of " + d[0], () -> house.asOf(0, 0, 4, 4, d[0]));
            Due.is(d[2], "0 0 as of " + d[0], () -> house.asOf(0, 0, 1, 1, d[0]));
            Due.is(d[3], "3 3 as of " + d[0], () -> house.asOf(3, 3, 1, 1, d[0]));
        }
        for (int wrong : new int[] {-1, 5, Integer.MAX_VALUE, Integer.MIN_VALUE}) {
            Due.fails(ARGUMENT, "as of " + wrong, house, () -> house.asOf(0, 0, 1, 1, wrong));
        }
        for (int[] b : NO_BOXES) {
            Due.fails(ARGUMENT, "asOf no box", house, () -> house.asOf(b[0], b[1], b[2], b[3], 0));
        }
    }

    private static void soon() {
        CurvekeyHouse house = rows();
        house.put(0, 0);
        house.put(1, 0);
        house.put(3, 3);
        house.speed(0, 1, 0);
        house.speed(2, -3, -1);
        house.speed(1, 0, 3);
        Due.is(1, "held to the upper side", () -> house.soon(1, 3, 1, 1, 2));
        house.speed(1, 0, 0);
        Due.is(2, "nobody bars it", () -> house.soon(1, 0, 1, 1, 1));
        Due.is(1, "0 ticks", () -> house.soon(0, 0, 1, 1, 0));
        Due.is(1, "held to the side", () -> house.soon(3, 0, 1, 1, 40));
        Due.is(1, "held to 0", () -> house.soon(0, 2, 1, 1, 1));
        Due.is(1, "held to 0, 0", () -> house.soon(0, 0, 1, 1, 40));
        house.remove(2);
        Due.is(0, "only those that live", () -> house.soon(0, 0, 1, 1, 40));
        for (int wrong : new int[] {-1, 41, Integer.MAX_VALUE, Integer.MIN_VALUE}) {
            Due.fails(ARGUMENT, "soon in " + wrong, house, () -> house.soon(0, 0, 1, 1, wrong));
        }
        for (int[] b : NO_BOXES) {
            Due.fails(ARGUMENT, "soon of no box", house, () -> house.soon(b[0], b[1], b[2], b[3], 0));
        }
    }
}
