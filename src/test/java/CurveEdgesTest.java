/** The edges of the plane and its curves: the description's part 1, and promises 1 to 8. */
public final class CurveEdgesTest {
    private static final Class<?> ARGUMENT = IllegalArgumentException.class;
    private static final Class<?> STATE = IllegalStateException.class;
    private static final int[] SIDES = {1, 2, 4, 8, 16, 32};

    public static void main(String[] args) {
        orders();
        places();
        keys();
        rows();
        snake();
        quarters();
        turns();
        turnsOfATable();
        turnOfTheOrderNotOfTheQuarter();
        sideOfOne();
        tables();
        own();
        sideBySide();
        runsAsLongAsCanBe();
        newObject();
        designCodes();
        designReturns();
        designWrongCodes();
        designTwice();
        designBehindAPut();
        designInWhichOrder();
        keyRefused();
        placeAsked();
        placeRefused();
        curveFacts();
        curveFactsOfEachPair();
        curveFactsRefused();
        runsRefused();
        runsOfTheLeastAndTheMost();
        allRunsOfTheLeastAndTheMost();
        allRunsRefused();
        best();
        bestOfOneOrAll();
        bestRefused();
        Due.end();
    }

    private static void orders() {
        Due.says(0, "ORDER is 1 to 5 (3 at first), SIDE is 2 to the power of that.");
        Due.is(3, "ORDER at first", () -> new CurvekeyHouse().many(0));
        Due.is(8, "SIDE at first", () -> new CurvekeyHouse().row(0).length());
        for (int order = 1; order <= 5; order++) {
            int each = order;
            CurvekeyHouse house = Stores.empty(order, 3, 4);
            Due.is(order, "ORDER", () -> house.many(0));
            Due.is(SIDES[order], "SIDE of the order " + order, () -> house.row(SIDES[each] - 1).length());
        }
        Due.refuses(ARGUMENT, "ORDER 0", Stores::busy, house -> house.found(0, 3, 4));
        Due.refuses(ARGUMENT, "ORDER 6", Stores::busy, house -> house.found(6, 3, 4));
    }

    private static void places() {
        Due.says(0, "PLACES are x and y, 0 to SIDE - 1 each; KEYS 0 to SIDE * SIDE - 1.");
        for (int order = 1; order <= 5; order++) {
            int last = SIDES[order] - 1;
            int each = order;
            Picture.Store store = () -> Stores.empty(each, 3, 4);
            for (int wrong : Due.outside(0, last)) {
                Due.refuses(ARGUMENT, "x " + wrong, store, house -> house.put(wrong, 0));
                Due.refuses(ARGUMENT, "y " + wrong, store, house -> house.put(0, wrong));
            }
            Due.allows("the last place of all", store, house -> house.put(last, last));
            Due.allows("the last x", store, house -> house.put(last, 0));
            Due.allows("the last y", store, house -> house.put(0, last));
            Due.allows("the first place", store, house -> house.put(0, 0));
        }
    }

    private static void keys() {
        Due.says(0, "KEYS 0 to SIDE * SIDE - 1");
        for (int order = 1; order <= 5; order++) {
            int last = SIDES[order] * SIDES[order] - 1;
            int each = order;
            for (int curve = 0; curve < 6; curve++) {
                int c = curve;
                Due.ranges(0, last, ARGUMENT, "place of the order " + order, () -> Stores.empty(each, 0, 2),
                    (house, key) -> house.place(c, key, key % 2 == 0));
            }
            Due.is(last, "the last key of rows", () -> Stores.empty(each, 0, 2).key(0, SIDES[each] - 1, SIDES[each] - 1));
        }
    }

    private static void rows() {
        Due.says(0, "0 ROWS: the KEY is y * SIDE + x.");
        for (int order = 1; order <= 5; order++) {
            int side = SIDES[order];
            CurvekeyHouse house = Stores.empty(order, 0, 2);
            Due.is(0, "the first place", () -> house.key(0, 0, 0));
            Due.is(side - 1, "the end of the first row", () -> house.key(0, side - 1, 0));
            Due.is(side, "the begin of the second row", () -> house.key(0, 0, 1));
            Due.is(side * side - side, "the begin of the last row", () -> house.key(0, 0, side - 1));
            Due.is(side * side - 1, "the end of the last row", () -> house.key(0, side - 1, side - 1));
        }
    }

    private static void snake() {
        Due.says(0, "1 SNAKE: likewise, but in rows of an odd y it is y * SIDE + SIDE - 1 - x.");
        for (int order = 1; order <= 5; order++) {
            int side = SIDES[order];
            CurvekeyHouse house = Stores.empty(order, 1, 2);
            Due.is(0, "the first place", () -> house.key(1, 0, 0));
            Due.is(side - 1, "the end of the row 0", () -> house.key(1, side - 1, 0));
            Due.is(side, "above it", () -> house.key(1, side - 1, 1));
            Due.is(2 * side - 1, "the row 1 ends at x 0", () -> house.key(1, 0, 1));
            Due.is(side * side - side, "the last row, which is odd, begins at its last x",
                () -> house.key(1, side - 1, side - 1));
            Due.is(side * side - 1, "and ends at x 0", () -> house.key(1, 0, side - 1));
        }
        CurvekeyHouse house = Stores.empty(2, 1, 2);
        Due.is(8, "the row 2 begins at x 0", () -> house.key(1, 0, 2));
        Due.is(11, "and ends at its last x", () -> house.key(1, 3, 2));
    }

    private static void quarters() {
        Due.says(0, "QUARTERS of a square: 0 the low half of x and of y, 1 the high half of x, the low one of y, "
            + "2 the low one of x, the high one of y, 3 the high ones.");
        // by 0 1 2 3 a quarter's keys are 16 * quarter to 16 * quarter + 15 on the side 8: 3 is low, 4 is high
        int[][] due = {{0, 0, 0}, {3, 3, 0}, {4, 0, 1}, {7, 3, 1}, {0, 4, 2}, {3, 7, 2}, {4, 4, 3}, {7, 7, 3}, {3, 4, 2},
            {4, 3, 1}};
        CurvekeyHouse house = new CurvekeyHouse();
        for (int[] d : due) {
            Due.is(d[2], "quarter of " + d[0] + " " + d[1], () -> house.key(2, d[0], d[1]) / 16);
        }
    }

    private static void turns() {
        Due.says(0, "To TURN a PLACE of a square of the side n: with 1 in TURN x and y change places, "
            + "with 2 (behind that) x becomes n - 1 - x, with 4 y becomes n - 1 - y.");
        // the quarter 0 of the side 4 is turned: keys of 0 0, 1 0, 0 1 and 1 1
        int[][] due = {{0, 1, 2, 3}, {0, 2, 1, 3}, {1, 0, 3, 2}, {1, 3, 0, 2},
            {2, 3, 0, 1}, {2, 0, 3, 1}, {3, 2, 1, 0}, {3, 1, 2, 0}};
        for (int turn = 0; turn < due.length; turn++) {
            CurvekeyHouse house = Stores.empty(2, 0, 2);
            house.design(turn, 8, 16, 24);
            for (int place = 0; place < 4; place++) {
                int p = place;
                Due.is(due[turn][place], "turn " + turn + " of " + place % 2 + " " + place / 2,
                    () -> house.key(5, p % 2, p / 2));
                Due.is(12 + place, "the quarter 3 is not turned", () -> house.key(5, 2 + p % 2, 2 + p / 2));
            }
        }
        // on the side 8 the quarter's n is 4: 0 0 becomes 3 0, and 3 0 becomes 0 0, which becomes 1 0 by n 2
        CurvekeyHouse house = Stores.empty(3, 0, 2);
        house.design(2, 8, 16, 24);
        Due.is(5, "n is that of the quarter", () -> house.key(5, 0, 0));
        Due.is(1, "n is that of the quarter within", () -> house.key(5, 3, 0));
    }

    private static void turnsOfATable() {
        Due.says(0, "A TABLE tells the four QUARTERS in an order, each with a TURN (0 to 7).");
        for (int quarter = 0; quarter < 4; quarter++) {
            int least = 8 * quarter;
            int[] others = {8 * ((quarter + 1) % 4), 8 * ((quarter + 2) % 4), 8 * ((quarter + 3) % 4)};
            Due.ranges(least, least + 7, ARGUMENT, "the turn of the quarter " + quarter, CurvekeyHouse::new,
                (h, code) -> h.design(code, others[0], others[1], others[2]));
            Due.ranges(least, least + 7, ARGUMENT, "the turn of the quarter " + quarter, CurvekeyHouse::new,
                (h, code) -> h.design(others[0], others[1], others[2], code));
        }
        int[][] orders = {{3, 2, 1, 0}, {1, 3, 0, 2}, {2, 0, 3, 1}};
        for (int[] order : orders) {
            CurvekeyHouse house = Stores.empty(1, 0, 2);
            house.design(8 * order[0], 8 * order[1], 8 * order[2], 8 * order[3]);
            for (int key = 0; key < 4; key++) {
                int k = key;
                Due.is(k, "the quarter " + order[k], () -> house.key(5, order[k] % 2, order[k] / 2));
            }
        }
        Due.says(0, "2 to 5 are FOLDED, each by a TABLE.");
        int[][] due = {{0, 1, 2, 3}, {0, 3, 1, 2}, {0, 1, 3, 2}, {0, 1, 2, 3}};
        CurvekeyHouse house = Stores.empty(1, 0, 2);
        for (int curve = 2; curve <= 5; curve++) {
            for (int place = 0; place < 4; place++) {
                int c = curve;
                int p = place;
                Due.is(due[c - 2][p], "curve " + c + " at " + p % 2 + " " + p / 2, () -> house.key(c, p % 2, p / 2));
            }
        }
        Due.refuses(ARGUMENT, "there is no curve 6", CurvekeyHouse::new, h -> h.key(6, 0, 0));
    }

    private static void turnOfTheOrderNotOfTheQuarter() {
        Due.says(0, "Otherwise, with i (0 to 3) as which QUARTER in the order of the TABLE it lies in: "
            + "i * (n / 2) * (n / 2), and the KEY, in a square of the side n / 2 by the same TABLE, "
            + "of that PLACE within its QUARTER as it is TURNED by the i-th TURN.");
        CurvekeyHouse house = Stores.empty(2, 0, 2);
        house.design(30, 0, 8, 16);
        int[][] due = {{2, 2, 0}, {3, 2, 3}, {2, 3, 2}, {3, 3, 1}, {0, 0, 5}, {1, 0, 6}, {0, 1, 7}, {1, 1, 4},
            {2, 0, 9}, {3, 1, 8}, {0, 2, 13}, {1, 3, 12}};
        for (int[] d : due) {
            Due.is(d[2], "key of " + d[0] + " " + d[1], () -> house.key(5, d[0], d[1]));
            Due.is(d[0], "x of the key " + d[2], () -> house.place(5, d[2], false));
            Due.is(d[1], "y of the key " + d[2], () -> house.place(5, d[2], true));
        }
    }

    private static void sideOfOne() {
        Due.says(0, "The KEY of a PLACE in a square of the side n by a TABLE: 0, if n is 1.");
        CurvekeyHouse house = Stores.empty(1, 0, 2);
        for (int turn = 0; turn < 8; turn++) {
            house.design(turn, 8 + turn, 16 + turn, 24 + turn);
            for (int key = 0; key < 4; key++) {
                int k = key;
                int t = turn;
                Due.is(k, "a place of the side 1 has nothing to turn, by " + t, () -> house.key(5, k % 2, k / 2));
            }
        }
    }

    private static void tables() {
        Due.says(0, "TABLES (QUARTERS, TURNS): 2: 0 1 2 3, 0 0 0 0.");
        keysOfRows(2, 0, 1, 4, 5, 2, 3, 6, 7, 8, 9, 12, 13, 10, 11, 14, 15);
        Due.says(0, "3: 0 2 3 1, 1 0 0 7.");
        keysOfRows(3, 0, 1, 14, 15, 3, 2, 13, 12, 4, 7, 8, 11, 5, 6, 9, 10);
        Due.says(0, "4: 0 1 3 2, 0 0 0 0.");
        keysOfRows(4, 0, 1, 4, 5, 3, 2, 7, 6, 12, 13, 8, 9, 15, 14, 11, 10);
    }

    private static void keysOfRows(int curve, int... keys) {
        CurvekeyHouse house = Stores.empty(2, 0, 2);
        for (int place = 0; place < keys.length; place++) {
            int p = place;
            Due.is(keys[p], "curve " + curve + " at " + p % 4 + " " + p / 4, () -> house.key(curve, p % 4, p / 4));
        }
    }

    private static void own() {
        Due.says(0, "5: OWN; as 2 at first.");
        CurvekeyHouse house = new CurvekeyHouse();
        for (int place = 0; place < 64; place++) {
            int p = place;
            Due.is(house.key(2, p % 8, p / 8), "at first", () -> house.key(5, p % 8, p / 8));
        }
        house.found(4, 5, 2);
        Due.is(house.key(2, 9, 6), "founded with it", () -> house.key(5, 9, 6));
    }

    private static void sideBySide() {
        Due.says(0, "SIDE BY SIDE are two PLACES whose x or whose y differ by 1, and the other one not at all.");
        CurvekeyHouse house = Stores.empty(1, 0, 2);
        Due.is(1, "rows: 1 0 and 0 1 differ by both", () -> house.ofCurve(0, 0));
        Due.is(0, "snake: none", () -> house.ofCurve(1, 0));
        house.found(2, 0, 2);
        Due.is(3, "rows: an end of a row is not beside the next one's begin", () -> house.ofCurve(0, 0));
        house.design(0, 24, 8, 16);
        // 0, 3, 1, 2: 0 to 3 and 1 to 2 differ by both; 3 to 1 is beside within a square of 2 only
        Due.is(11, "each way to be apart", () -> house.ofCurve(5, 0));
    }

    private static void runsAsLongAsCanBe() {
        Due.says(0, "RUNS of a BOX by a CURVE: its KEYS as rows of numbers that follow each other, as long as can be.");
        CurvekeyHouse house = new CurvekeyHouse();
        Due.is(1, "whole rows are one", () -> house.runs(0, 0, 2, 8, 3));
        Due.is(3, "rows without their first place are not", () -> house.runs(0, 1, 2, 7, 3));
        Due.is(3, "rows without their last place are not", () -> house.runs(0, 0, 2, 7, 3));
        Due.is(2, "a snake turns at the last x", () -> house.runs(1, 1, 0, 7, 3));
        Due.is(2, "a snake turns at x 0", () -> house.runs(1, 0, 0, 7, 3));
        Due.is(1, "from one quarter on to the next", () -> house.runs(2, 0, 0, 8, 4));
    }

    private static void newObject() {
        Due.says(1, "Creates a STORE of the ORDER 3, the CURVE 3, the CAPACITY 4.");
        Due.is(3, "ORDER", () -> new CurvekeyHouse().many(0));
        Due.is(3, "CURVE", () -> new CurvekeyHouse().many(1));
        Due.is(4, "CAPACITY", () -> new CurvekeyHouse().many(2));
        Due.changesNothing("to found it so", CurvekeyHouse::new, h -> h.found(3, 3, 4));
        CurvekeyHouse house = new CurvekeyHouse();
        house.bulk(4, 0);
        Due.is(1, "4 are in one page", () -> house.many(5));
        house.put(0, 7);
        Due.is(2, "5 are in two", () -> house.many(5));
        Due.is(house.key(3, 0, 7), "keys by the curve 3", () -> house.ofPoint(4, 2));
        Due.is(0, "nothing was ever put into it", () -> new CurvekeyHouse().many(3));
    }

    private static void designCodes() {
        Due.says(2, "Designs the CURVE 5: quarter by quarter QUARTER and TURN, as 8 * QUARTER + TURN.");
        CurvekeyHouse house = Stores.empty(2, 0, 2);
        house.design(31, 0, 15, 23);
        Due.is(0, "31 is the quarter 3, turned by 7: its 0 0 becomes 1 1, the quarter that comes first",
            () -> house.key(5, 2, 2));
        Due.is(5, "0 is the quarter 0, not turned", () -> house.key(5, 0, 0));
        Due.is(8, "15 is the quarter 1, turned by 7: its 0 0 becomes 1 1", () -> house.key(5, 2, 0));
        Due.is(12, "23 is the quarter 2, turned by 7", () -> house.key(5, 0, 2));
        Due.is(12, "the curve 2 stays, though 5 was as 2", () -> house.key(2, 2, 2));
    }

    private static void designReturns() {
        Due.says(2, "Returns how many pairs of KEYS next to each other there are on a plane of the ORDER, "
            + "whose PLACES are not SIDE BY SIDE (as of now).");
        int[] due = {0, 1, 7, 31, 127, 511};
        for (int order = 1; order <= 5; order++) {
            int each = order;
            CurvekeyHouse house = Stores.empty(order, 0, 2);
            Due.is(0, "a curve without a gap", () -> house.design(1, 16, 24, 15));
            Due.is(due[order], "of the order " + order, () -> house.design(0, 8, 16, 24));
            Due.is(due[each], "it stays", () -> house.ofCurve(5, 0));
            Due.is(house.ofCurve(4, 0), "as the curve 4", () -> house.design(0, 8, 24, 16));
        }
        CurvekeyHouse house = new CurvekeyHouse();
        house.design(0, 8, 16, 24);
        house.found(5, 0, 2);
        Due.is(511, "by the same table on another plane", () -> house.ofCurve(5, 0));
    }

    private static void designWrongCodes() {
        Due.says(2, "Throws `IllegalArgumentException` if one of these is not 0 to 31, or a QUARTER is named twice");
        Due.ranges(0, 7, ARGUMENT, "first, of the quarter 0", CurvekeyHouse::new, (h, code) -> h.design(code, 8, 16, 24));
        Due.ranges(24, 31, ARGUMENT, "first, of the quarter 3", CurvekeyHouse::new, (h, code) -> h.design(code, 8, 16, 0));
        Due.ranges(0, 7, ARGUMENT, "second, of the quarter 0", CurvekeyHouse::new, (h, code) -> h.design(8, code, 16, 24));
        Due.ranges(24, 31, ARGUMENT, "second, of the quarter 3", CurvekeyHouse::new, (h, code) -> h.design(8, code, 16, 0));
        Due.ranges(0, 7, ARGUMENT, "third, of the quarter 0", CurvekeyHouse::new, (h, code) -> h.design(8, 16, code, 24));
        Due.ranges(24, 31, ARGUMENT, "third, of the quarter 3", CurvekeyHouse::new, (h, code) -> h.design(8, 16, code, 0));
        Due.ranges(0, 7, ARGUMENT, "fourth, of the quarter 0", CurvekeyHouse::new, (h, code) -> h.design(8, 16, 24, code));
        Due.ranges(24, 31, ARGUMENT, "fourth, of the quarter 3", CurvekeyHouse::new, (h, code) -> h.design(8, 16, 0, code));
        // codes that look like a quarter to a shift that wraps around, or to a remainder
        for (int off : new int[] {32, 256, -32, -256, 1 << 30}) {
            Due.refuses(ARGUMENT, "first off by " + off, CurvekeyHouse::new, h -> h.design(off, 8, 16, 24));
            Due.refuses(ARGUMENT, "second off by " + off, CurvekeyHouse::new, h -> h.design(0, 8 + off, 16, 24));
            Due.refuses(ARGUMENT, "third off by " + off, CurvekeyHouse::new, h -> h.design(0, 8, 16 + off, 24));
            Due.refuses(ARGUMENT, "fourth off by " + off, CurvekeyHouse::new, h -> h.design(0, 8, 16, 24 + off));
        }
    }

    private static void designTwice() {
        Due.says(2, "or a QUARTER is named twice");
        int[][] twice = {{0, 0, 16, 24}, {0, 8, 0, 24}, {0, 8, 16, 0}, {0, 8, 8, 24}, {0, 8, 16, 8}, {0, 8, 16, 16},
            {7, 0, 16, 24}, {31, 8, 16, 24}, {0, 15, 16, 9}, {8, 8, 8, 8}, {24, 31, 0, 7}};
        for (int[] t : twice) {
            Due.refuses(ARGUMENT, "design(" + t[0] + ", " + t[1] + ", " + t[2] + ", " + t[3] + ")", CurvekeyHouse::new,
                h -> h.design(t[0], t[1], t[2], t[3]));
        }
    }

    private static void designBehindAPut() {
        Due.says(2, "Throws `IllegalStateException` if the CURVE of the STORE is 5, and a POINT was put since it was "
            + "founded (whether it LIVES or not)");
        Due.allows("design ahead of a put", () -> Stores.empty(2, 5, 2), h -> h.design(1, 16, 24, 15));
        Due.is(15, "then points have keys by it", () -> {
            CurvekeyHouse house = Stores.empty(2, 5, 2);
            house.design(1, 16, 24, 15);
            house.put(3, 0);
            return house.ofPoint(0, 2);
        });
        Due.refuses(STATE, "design behind a put", () -> onOwn(1), h -> h.design(1, 16, 24, 15));
        Due.refuses(STATE, "design behind a bulk", () -> onOwn(2), h -> h.design(1, 16, 24, 15));
        Due.refuses(STATE, "design though it is gone", () -> onOwn(3), h -> h.design(1, 16, 24, 15));
        Due.refuses(STATE, "design though its tomb is gone too", () -> onOwn(4), h -> h.design(1, 16, 24, 15));
        Due.refuses(STATE, "design as it is already", () -> onOwn(1), h -> h.design(0, 8, 16, 24));
        Due.allows("design behind a put that was refused", () -> onOwn(5), h -> h.design(1, 16, 24, 15));
        Due.allows("design as it is founded anew", () -> onOwn(6), h -> h.design(1, 16, 24, 15));
        for (int curve = 0; curve < 5; curve++) {
            int c = curve;
            Due.allows("design with points by the curve " + c, () -> withPoint(c), h -> h.design(1, 16, 24, 15));
        }
        Due.is(0, "then design answers", () -> withPoint(4).design(1, 16, 24, 15));
    }

    private static CurvekeyHouse withPoint(int curve) {
        CurvekeyHouse house = Stores.empty(2, curve, 2);
        house.put(0, 0);
        return house;
    }

    /** A store by the curve 5, behind so much of what may happen to it. */
    private static CurvekeyHouse onOwn(int what) {
        CurvekeyHouse house = Stores.empty(2, 5, 2);
        if (what == 2) {
            house.bulk(1, 1);
        } else if (what == 5) {
            Picture.thrownBy(house, h -> h.put(4, 0));
        } else {
            house.put(0, 0);
        }
        if (what == 3 || what == 4) {
            house.remove(0);
        }
        if (what == 4) {
            house.sweep();
        }
        if (what == 6) {
            house.found(2, 5, 2);
        }
        return house;
    }

    private static void designInWhichOrder() {
        Due.says(0, "If several exceptions apply, the one that is named first is thrown.");
        Due.refuses(ARGUMENT, "design of a wrong code behind a put", () -> onOwn(1), h -> h.design(1, 16, 24, 32));
        Due.refuses(ARGUMENT, "design of a quarter twice behind a put", () -> onOwn(1), h -> h.design(1, 16, 24, 16));
    }

    private static void keyRefused() {
        Due.says(3, "Throws `IllegalArgumentException` if curve is not 0 to 5, or there is no such PLACE");
        for (int order = 1; order <= 5; order += 2) {
            int each = order;
            int last = SIDES[order] - 1;
            Picture.Store store = () -> Stores.empty(each, 3, 4);
            Due.ranges(0, 5, ARGUMENT, "key by the curve", store, (h, curve) -> h.key(curve, last, last));
            for (int curve = 0; curve < 6; curve++) {
                int c = curve;
                Due.ranges(0, last, ARGUMENT, "key at x", store, (h, x) -> h.key(c, x, 0));
                Due.ranges(0, last, ARGUMENT, "key at y", store, (h, y) -> h.key(c, 0, y));
            }
        }
    }

    private static void placeAsked() {
        Due.says(4, "- `isY`: whether y of its PLACE, otherwise x");
        CurvekeyHouse house = Stores.empty(2, 0, 2);
        int[][] sixth = {{2, 1}, {1, 1}, {2, 1}, {1, 3}, {3, 1}, {2, 1}};
        int[][] last = {{3, 3}, {0, 3}, {3, 3}, {3, 0}, {0, 3}, {3, 3}};
        for (int curve = 0; curve < 6; curve++) {
            int c = curve;
            Due.is(sixth[c][0], "x of 6 by " + c, () -> house.place(c, 6, false));
            Due.is(sixth[c][1], "y of 6 by " + c, () -> house.place(c, 6, true));
            Due.is(last[c][0], "x of 15 by " + c, () -> house.place(c, 15, false));
            Due.is(last[c][1], "y of 15 by " + c, () -> house.place(c, 15, true));
            Due.is(0, "x of 0 by " + c, () -> house.place(c, 0, false));
            Due.is(0, "y of 0 by " + c, () -> house.place(c, 0, true));
        }
    }

    private static void placeRefused() {
        Due.says(4, "Throws `IllegalArgumentException` if curve is not 0 to 5, or there is no such KEY");
        Due.ranges(0, 5, ARGUMENT, "place by the curve", Stores::busy, (h, curve) -> h.place(curve, 63, false));
        Due.ranges(0, 63, ARGUMENT, "x of the key", Stores::busy, (h, key) -> h.place(5, key, false));
        Due.ranges(0, 63, ARGUMENT, "y of the key", Stores::busy, (h, key) -> h.place(5, key, true));
    }

    private static void curveFacts() {
        Due.says(5, "- `what`: 0 how many pairs of KEYS next to each other have PLACES that are not SIDE BY SIDE, "
            + "1 the greatest amount by which KEYS of PLACES SIDE BY SIDE differ, "
            + "2 the sum of all these (each two PLACES once), "
            + "3 1 if the last KEY's PLACE is SIDE BY SIDE with that of the KEY 0, otherwise 0");
        int[][] least = {{1, 2, 6, 0}, {0, 3, 6, 1}, {1, 2, 6, 0}, {0, 3, 6, 1}, {0, 3, 6, 1}, {1, 2, 6, 0}};
        CurvekeyHouse house = Stores.empty(1, 0, 2);
        CurvekeyHouse next = Stores.empty(2, 0, 2);
        int[][] of16 = {{3, 4, 60, 0}, {0, 7, 60, 0}, {7, 6, 60, 0}, {0, 13, 64, 0}, {2, 11, 64, 0}, {7, 6, 60, 0}};
        for (int curve = 0; curve < 6; curve++) {
            for (int what = 0; what < 4; what++) {
                int c = curve;
                int w = what;
                Due.is(least[c][w], "side 2, ofCurve(" + c + ", " + w + ")", () -> house.ofCurve(c, w));
                Due.is(of16[c][w], "side 4, ofCurve(" + c + ", " + w + ")", () -> next.ofCurve(c, w));
            }
        }
        house.design(0, 24, 8, 16);
        Due.is(1, "the last key lies at 0 1, beside 0 0", () -> house.ofCurve(5, 3));
        house.design(0, 16, 8, 24);
        Due.is(0, "the last key lies at 1 1", () -> house.ofCurve(5, 3));
    }

    /** The facts once more by places alone, of a curve of its own too. */
    private static void curveFactsOfEachPair() {
        Due.says(5, "2 the sum of all these (each two PLACES once)");
        for (int curve = 0; curve < 6; curve++) {
            CurvekeyHouse house = new CurvekeyHouse();
            house.design(9, 2, 28, 23);
            int[] xs = new int[64];
            int[] ys = new int[64];
            for (int key = 0; key < 64; key++) {
                xs[key] = house.place(curve, key, false);
                ys[key] = house.place(curve, key, true);
            }
            int jumps = 0;
            int greatest = 0;
            int sum = 0;
            for (int key = 0; key < 64; key++) {
                for (int later = key + 1; later < 64; later++) {
                    boolean isBeside = Math.abs(xs[key] - xs[later]) + Math.abs(ys[key] - ys[later]) == 1;
                    jumps += later == key + 1 && !isBeside ? 1 : 0;
                    greatest = isBeside ? Math.max(greatest, later - key) : greatest;
                    sum += isBeside ? later - key : 0;
                }
            }
            int[] due = {jumps, greatest, sum, Math.abs(xs[0] - xs[63]) + Math.abs(ys[0] - ys[63]) == 1 ? 1 : 0};
            for (int what = 0; what < 4; what++) {
                int c = curve;
                int w = what;
                Due.is(due[w], "ofCurve(" + c + ", " + w + ")", () -> house.ofCurve(c, w));
            }
        }
        CurvekeyHouse greatest = Stores.empty(5, 0, 2);
        int[] sums = {32736, 32736, 32736};
        for (int curve = 0; curve < 3; curve++) {
            int c = curve;
            Due.is(sums[c], "the sum of the curve " + c + " on the side 32", () -> greatest.ofCurve(c, 2));
        }
        Due.is(63, "the greatest of the snake on the side 32", () -> greatest.ofCurve(1, 1));
        for (int curve = 0; curve < 6; curve++) {
            int c = curve;
            Due.is(0, "none closes on the side 32", () -> greatest.ofCurve(c, 3));
        }
    }

    private static void curveFactsRefused() {
        Due.says(5, "Throws `IllegalArgumentException` if curve is not 0 to 5, or what not 0 to 3");
        Due.ranges(0, 5, ARGUMENT, "ofCurve of the curve", Stores::busy, (h, curve) -> h.ofCurve(curve, 3));
        Due.ranges(0, 3, ARGUMENT, "ofCurve of what", Stores::busy, (h, what) -> h.ofCurve(5, what));
    }

    private static void runsRefused() {
        Due.says(6, "Throws `IllegalArgumentException` if curve is not 0 to 5, or it is no BOX on the plane");
        Due.ranges(0, 5, ARGUMENT, "runs by the curve", Stores::busy, (h, curve) -> h.runs(curve, 0, 0, 8, 8));
        Due.ranges(0, 6, ARGUMENT, "runs at x", Stores::busy, (h, x) -> h.runs(5, x, 0, 2, 1));
        Due.ranges(0, 6, ARGUMENT, "runs at y", Stores::busy, (h, y) -> h.runs(5, 0, y, 1, 2));
        Due.ranges(1, 7, ARGUMENT, "runs of wide", Stores::busy, (h, wide) -> h.runs(5, 1, 0, wide, 1));
        Due.ranges(1, 7, ARGUMENT, "runs of high", Stores::busy, (h, high) -> h.runs(5, 0, 1, 1, high));
    }

    private static void runsOfTheLeastAndTheMost() {
        Due.says(6, "Returns how many RUNS it has.");
        for (int order = 1; order <= 5; order++) {
            int side = SIDES[order];
            CurvekeyHouse house = Stores.empty(order, 0, 2);
            for (int curve = 0; curve < 6; curve++) {
                int c = curve;
                Due.is(1, "one place", () -> house.runs(c, side - 1, side - 1, 1, 1));
                Due.is(1, "the first place", () -> house.runs(c, 0, 0, 1, 1));
                Due.is(1, "the whole plane", () -> house.runs(c, 0, 0, side, side));
            }
            Due.is(side, "a column of rows", () -> house.runs(0, 0, 0, 1, side));
            Due.is(side / 2 + 1, "a column of the snake", () -> house.runs(1, 0, 0, 1, side));
        }
        CurvekeyHouse wild = Stores.empty(5, 0, 2);
        wild.design(21, 14, 7, 30);
        Due.is(120, "more runs than a cut may leave", () -> wild.runs(5, 1, 3, 30, 26));
    }

    private static void allRunsOfTheLeastAndTheMost() {
        Due.says(7, "Returns RUNS of all BOXES of that size on the plane, together.");
        for (int order = 1; order <= 5; order++) {
            int side = SIDES[order];
            CurvekeyHouse house = Stores.empty(order, 0, 2);
            for (int curve = 0; curve < 6; curve++) {
                int c = curve;
                Due.is(side * side, "each place is a box", () -> house.allRuns(c, 1, 1));
                Due.is(1, "the plane is one box", () -> house.allRuns(c, side, side));
            }
            Due.is(side, "a row each", () -> house.allRuns(0, side, 1));
            Due.is(side * side, "columns of rows", () -> house.allRuns(0, 1, side));
            Due.is(side * side - side + 1, "columns of the snake: the first and the last have its turns",
                () -> house.allRuns(1, 1, side));
        }
        CurvekeyHouse house = new CurvekeyHouse();
        for (int[] size : new int[][] {{2, 3}, {7, 7}, {8, 7}, {1, 8}, {7, 1}}) {
            for (int curve = 0; curve < 6; curve++) {
                int c = curve;
                Due.is(together(curve, size[0], size[1]), "each box once", () -> house.allRuns(c, size[0], size[1]));
            }
        }
    }

    private static int together(int curve, int wide, int high) {
        CurvekeyHouse house = new CurvekeyHouse();
        int sum = 0;
        for (int x = 0; x + wide <= 8; x++) {
            for (int y = 0; y + high <= 8; y++) {
                sum += house.runs(curve, x, y, wide, high);
            }
        }
        return sum;
    }

    private static void allRunsRefused() {
        Due.says(7, "Throws `IllegalArgumentException` if curve is not 0 to 5, or wide or high not 1 to SIDE");
        Due.ranges(0, 5, ARGUMENT, "allRuns by the curve", Stores::busy, (h, curve) -> h.allRuns(curve, 8, 8));
        for (int order = 1; order <= 5; order += 2) {
            int each = order;
            Picture.Store store = () -> Stores.empty(each, 5, 3);
            Due.ranges(1, SIDES[order], ARGUMENT, "allRuns of wide", store, (h, wide) -> h.allRuns(5, wide, 1));
            Due.ranges(1, SIDES[order], ARGUMENT, "allRuns of high", store, (h, high) -> h.allRuns(5, 1, high));
        }
    }

    private static void best() {
        Due.says(8, "Returns the CURVE with the fewest RUNS; of several the first one.");
        CurvekeyHouse house = new CurvekeyHouse();
        Due.is(0, "all six have one run", () -> house.best(1, 1, true));
        Due.is(0, "all six have one run", () -> house.best(8, 8, false));
        Due.is(2, "2 to 5 have one run", () -> house.best(2, 2, true));
        Due.is(1, "the snake alone has so few", () -> house.best(3, 3, false));
        Due.is(3, "4, 3, 4, 2, 4 and 4 runs", () -> house.best(1, 4, true));
        house.design(0, 16, 8, 24);
        Due.is(5, "the last curve alone", () -> house.best(2, 4, true));
        Due.is(0, "as good as the first one is not better", () -> house.best(8, 2, true));
    }

    private static void bestOfOneOrAll() {
        Due.says(8, "- `isBox`: whether one BOX is asked, at 0, 0, otherwise all of that size");
        CurvekeyHouse house = new CurvekeyHouse();
        for (int wide = 1; wide <= 8; wide++) {
            for (int high = 1; high <= 8; high++) {
                int w = wide;
                int h = high;
                Due.is(fewest(w, h, true), "the box " + w + " " + h, () -> house.best(w, h, true));
                Due.is(fewest(w, h, false), "boxes " + w + " " + h, () -> house.best(w, h, false));
            }
        }
        Due.is(2, "at 0 0 the curve 2", () -> house.best(4, 2, true));
        Due.is(1, "of all the snake: 70 runs of rows are 63", () -> house.best(4, 2, false));
    }

    private static int fewest(int wide, int high, boolean isBox) {
        CurvekeyHouse house = new CurvekeyHouse();
        int best = 0;
        for (int curve = 1; curve < 6; curve++) {
            int now = isBox ? house.runs(curve, 0, 0, wide, high) : house.allRuns(curve, wide, high);
            int then = isBox ? house.runs(best, 0, 0, wide, high) : house.allRuns(best, wide, high);
            best = now < then ? curve : best;
        }
        return best;
    }

    private static void bestRefused() {
        Due.says(8, "Throws `IllegalArgumentException` if wide or high is not 1 to SIDE");
        for (int order = 1; order <= 5; order += 2) {
            int each = order;
            Picture.Store store = () -> Stores.empty(each, 5, 3);
            for (boolean isBox : new boolean[] {true, false}) {
                Due.ranges(1, SIDES[order], ARGUMENT, "best of wide", store, (h, wide) -> h.best(wide, 1, isBox));
                Due.ranges(1, SIDES[order], ARGUMENT, "best of high", store, (h, high) -> h.best(1, high, isBox));
            }
        }
    }
}
