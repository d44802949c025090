/** Promises 1 to 8: a new object, and what is asked of curves. */
public final class CurvesTest {
    private static final Class<?> ARGUMENT = IllegalArgumentException.class;
    private static final Class<?> STATE = IllegalStateException.class;

    public static void main(String[] args) {
        newObject();
        design();
        keysAndPlaces();
        ofCurve();
        runs();
        allRuns();
        best();
        Due.end();
    }

    private static void newObject() {
        CurvekeyHouse house = new CurvekeyHouse();
        int[] want = {3, 3, 4, 0, 0, 1, 0, 0, 0, 0, 0, 1, 0, 0, 0, 0};
        for (int what = 0; what < want.length; what++) {
            int each = what;
            Due.is(want[what], "new many(" + what + ")", () -> house.many(each));
        }
        Due.is(15, "new key(5, 3, 3)", () -> house.key(5, 3, 3));
        Due.text("........", "new row(0)", house.row(0));
    }

    private static void design() {
        CurvekeyHouse house = new CurvekeyHouse();
        Due.is(0, "design of curve 3", () -> house.design(1, 16, 24, 15));
        for (int y = 0; y < 8; y++) {
            for (int x = 0; x < 8; x++) {
                int px = x;
                int py = y;
                Due.is(house.key(3, x, y), "designed key " + x + " " + y, () -> house.key(5, px, py));
            }
        }
        Due.is(house.ofCurve(4, 0), "design of curve 4", () -> house.design(0, 8, 24, 16));
        Due.is(31, "design of curve 2", () -> house.design(0, 8, 16, 24));
        Due.is(31, "as of now", () -> house.ofCurve(5, 0));
        Due.is(27, "design with turns", () -> house.design(9, 2, 28, 23));
        Due.fails(ARGUMENT, "design(-1, ..)", house, () -> house.design(-1, 8, 16, 24));
        Due.fails(ARGUMENT, "design(.., 32)", house, () -> house.design(0, 8, 16, 32));
        Due.fails(ARGUMENT, "design(.., 32, ..)", house, () -> house.design(0, 8, 32, 24));
        Due.fails(ARGUMENT, "design of wild", house, () -> house.design(Integer.MIN_VALUE, 8, 16, Integer.MAX_VALUE));
        // 256 more looks like the same quarter to a shift that wraps around
        Due.fails(ARGUMENT, "design(256, ..)", house, () -> house.design(256, 8, 16, 24));
        Due.fails(ARGUMENT, "design(.., 264, ..)", house, () -> house.design(0, 264, 16, 24));
        Due.fails(ARGUMENT, "design(.., 272, ..)", house, () -> house.design(0, 8, 272, 24));
        Due.fails(ARGUMENT, "design(.., 280)", house, () -> house.design(0, 8, 16, 280));
        Due.fails(ARGUMENT, "a quarter twice", house, () -> house.design(0, 7, 16, 24));
        Due.fails(ARGUMENT, "a quarter twice, far apart", house, () -> house.design(31, 7, 16, 24));
        Due.is(27, "the design stays", () -> house.ofCurve(5, 0));
        for (int[] d : new int[][] {{8, 0, 16, 24}, {8, 16, 0, 24}, {8, 16, 24, 0}, {31, 23, 15, 7}}) {
            house.design(d[0], d[1], d[2], d[3]);
            house.found(1, 0, 2);
            for (int key = 0; key < 4; key++) {
                int k = key;
                Due.is(d[k] / 8 % 2, "x of the quarter " + d[k] / 8, () -> house.place(5, k, false));
                Due.is(d[k] / 16, "y of the quarter " + d[k] / 8, () -> house.place(5, k, true));
            }
        }
        Due.is(2, "the first and the last pair", () -> house.design(0, 24, 8, 16));
        house.found(2, 5, 4);
        Due.is(house.ofCurve(2, 0), "design of an empty store's curve", () -> house.design(0, 8, 16, 24));
        house.put(0, 0);
        house.remove(0);
        Due.fails(STATE, "design behind a put", house, () -> house.design(1, 16, 24, 15));
        Due.fails(ARGUMENT, "both wrong", house, () -> house.design(1, 1, 24, 15));
        house.found(2, 4, 4);
        house.put(0, 0);
        Due.is(0, "design with another curve's store", () -> house.design(1, 16, 24, 15));
        house.found(1, 5, 2);
        Due.is(0, "the table lives on", () -> house.ofCurve(5, 0));
        Due.is(3, "the table lives on", () -> house.key(5, 1, 0));
    }

    private static void keysAndPlaces() {
        CurvekeyHouse house = new CurvekeyHouse();
        int[][] due = {{0, 3, 2, 19}, {0, 7, 7, 63}, {1, 3, 1, 12}, {1, 3, 2, 19}, {1, 0, 7, 63}, {2, 3, 2, 13},
            {3, 0, 0, 0}, {3, 0, 1, 1}, {3, 1, 1, 2}, {3, 1, 0, 3}, {3, 7, 0, 63}, {4, 3, 2, 9}, {5, 3, 2, 13}};
        for (int[] d : due) {
            Due.is(d[3], "key(" + d[0] + ", " + d[1] + ", " + d[2] + ")", () -> house.key(d[0], d[1], d[2]));
            Due.is(d[1], "place(" + d[0] + ", " + d[3] + ", false)", () -> house.place(d[0], d[3], false));
            Due.is(d[2], "place(" + d[0] + ", " + d[3] + ", true)", () -> house.place(d[0], d[3], true));
        }
        for (int order = 1; order <= 5; order++) {
            for (int curve = 0; curve < 6; curve++) {
                boolean all = true;
                CurvekeyHouse asked = house;
                for (int key = 0; key < 1 << (2 * order); key++) {
                    asked = key % 100 == 0 ? Stores.empty(order, 0, 2) : asked;
                    all &= asked.key(curve, asked.place(curve, key, false), asked.place(curve, key, true)) == key;
                }
                Due.yes("each key's place has it, order " + order + ", curve " + curve, all);
            }
        }
        house.found(2, 3, 4);
        for (int wrong : new int[] {-1, 6, Integer.MAX_VALUE, Integer.MIN_VALUE}) {
            Due.fails(ARGUMENT, "key of curve " + wrong, house, () -> house.key(wrong, 0, 0));
            Due.fails(ARGUMENT, "key of x " + wrong, house, () -> house.key(0, wrong, 0));
            Due.fails(ARGUMENT, "key of y " + wrong, house, () -> house.key(0, 0, wrong));
            Due.fails(ARGUMENT, "place of curve " + wrong, house, () -> house.place(wrong, 0, false));
        }
        Due.fails(ARGUMENT, "key at the side", house, () -> house.key(0, 4, 0));
        Due.fails(ARGUMENT, "place behind the last key", house, () -> house.place(0, 16, true));
        Due.fails(ARGUMENT, "place of -1", house, () -> house.place(0, -1, true));
    }

    private static void ofCurve() {
        CurvekeyHouse house = new CurvekeyHouse();
        int[][] due = {{7, 8, 504, 0}, {0, 15, 504, 0}, {31, 22, 504, 0}, {0, 53, 568, 0}};
        for (int curve = 0; curve < due.length; curve++) {
            for (int what = 0; what < 4; what++) {
                int c = curve;
                int w = what;
                Due.is(due[c][w], "ofCurve(" + c + ", " + w + ")", () -> house.ofCurve(c, w));
            }
        }
        house.found(1, 0, 2);
        Due.is(1, "closed", () -> house.ofCurve(3, 3));
        Due.is(0, "not closed: rows", () -> house.ofCurve(0, 3));
        Due.is(1, "closed: snake", () -> house.ofCurve(1, 3));
        Due.is(6, "sum of a small snake: 1, 1, 1 and 3", () -> house.ofCurve(1, 2));
        house.found(5, 0, 2);
        Due.is(853, "far keys", () -> house.ofCurve(3, 1));
        for (int wrong : new int[] {-1, 4, Integer.MAX_VALUE}) {
            Due.fails(ARGUMENT, "ofCurve(0, " + wrong + ")", house, () -> house.ofCurve(0, wrong));
        }
        Due.fails(ARGUMENT, "ofCurve(6, 0)", house, () -> house.ofCurve(6, 0));
        Due.fails(ARGUMENT, "ofCurve(-1, 0)", house, () -> house.ofCurve(-1, 0));
    }

    private static void runs() {
        CurvekeyHouse house = new CurvekeyHouse();
        int[][] due = {{0, 0, 0, 3, 2, 2}, {3, 0, 0, 2, 2, 1}, {2, 1, 1, 2, 2, 4}, {0, 0, 3, 8, 3, 1}, {0, 0, 0, 1, 8, 8},
            {1, 0, 0, 1, 8, 5}, {3, 2, 1, 4, 5, 3}, {4, 2, 1, 4, 5, 4}, {2, 7, 7, 1, 1, 1}, {5, 0, 0, 8, 8, 1}};
        for (int[] d : due) {
            Due.is(d[5], "runs(" + d[0] + ", " + d[1] + ", " + d[2] + ", " + d[3] + ", " + d[4] + ")",
                () -> house.runs(d[0], d[1], d[2], d[3], d[4]));
        }
        int[][] wrong = {{-1, 0, 0, 1, 1}, {6, 0, 0, 1, 1}, {0, -1, 0, 1, 1}, {0, 0, -1, 1, 1}, {0, 0, 0, 0, 1},
            {0, 0, 0, 1, 0}, {0, 7, 7, 2, 1}, {0, 7, 7, 1, 2}, {0, 8, 0, 1, 1}, {0, 0, 8, 1, 1},
            {0, 1, 0, Integer.MAX_VALUE, 1}, {0, 0, 1, 1, Integer.MAX_VALUE}, {0, Integer.MAX_VALUE, 0, 1, 1},
            {0, 0, 0, Integer.MIN_VALUE, 1}};
        for (int[] w : wrong) {
            Due.fails(ARGUMENT, "runs of no box", house, () -> house.runs(w[0], w[1], w[2], w[3], w[4]));
        }
    }

    private static void allRuns() {
        CurvekeyHouse house = new CurvekeyHouse();
        int[][] due = {{0, 8, 1, 8}, {1, 8, 8, 1}, {0, 3, 2, 84}, {1, 3, 2, 77}, {2, 3, 2, 128}, {3, 3, 2, 94}, {4, 3, 2, 111}};
        for (int[] d : due) {
            Due.is(d[3], "allRuns(" + d[0] + ", " + d[1] + ", " + d[2] + ")", () -> house.allRuns(d[0], d[1], d[2]));
        }
        for (int curve = 0; curve < 6; curve++) {
            for (int wide = 1; wide <= 8; wide++) {
                for (int high = 1; high <= 8; high++) {
                    CurvekeyHouse asked = new CurvekeyHouse();
                    int sum = 0;
                    for (int x = 0; x + wide <= 8; x++) {
                        for (int y = 0; y + high <= 8; y++) {
                            sum += asked.runs(curve, x, y, wide, high);
                        }
                    }
                    int c = curve;
                    int w = wide;
                    int h = high;
                    Due.is(sum, "allRuns(" + c + ", " + w + ", " + h + ")", () -> asked.allRuns(c, w, h));
                }
            }
        }
        for (int wrong : new int[] {-1, 0, 9, Integer.MAX_VALUE, Integer.MIN_VALUE}) {
            Due.fails(ARGUMENT, "allRuns wide " + wrong, house, () -> house.allRuns(0, wrong, 1));
            Due.fails(ARGUMENT, "allRuns high " + wrong, house, () -> house.allRuns(0, 1, wrong));
        }
        Due.fails(ARGUMENT, "allRuns of curve 6", house, () -> house.allRuns(6, 1, 1));
        Due.fails(ARGUMENT, "allRuns of curve -1", house, () -> house.allRuns(-1, 1, 1));
    }

    private static void best() {
        CurvekeyHouse house = new CurvekeyHouse();
        Due.is(2, "best(2, 2, true)", () -> house.best(2, 2, true));
        Due.is(0, "best(8, 1, true)", () -> house.best(8, 1, true));
        Due.is(0, "best(1, 1, false): of several the first one", () -> house.best(1, 1, false));
        Due.is(1, "best(3, 3, false)", () -> house.best(3, 3, false));
        Due.is(2, "best(4, 2, true)", () -> house.best(4, 2, true));
        house.design(0, 16, 8, 24);
        Due.is(5, "best(2, 4, true) by the own curve", () -> house.best(2, 4, true));
        for (int wrong : new int[] {-1, 0, 9, Integer.MAX_VALUE}) {
            Due.fails(ARGUMENT, "best wide " + wrong, house, () -> house.best(wrong, 1, true));
            Due.fails(ARGUMENT, "best high " + wrong, house, () -> house.best(1, wrong, false));
        }
    }
}
