/** The edges of neighbours, movers and guesses: the description's parts 4 and 5, and promises 22 to 31. */
public final class MoverEdgesTest {
    private static final Class<?> ARGUMENT = IllegalArgumentException.class;
    private static final Class<?> STATE = IllegalStateException.class;
    private static final Class<?> INDEX = IndexOutOfBoundsException.class;

    public static void main(String[] args) {
        fars();
        nthNearest();
        pairsLive();
        speeds();
        tickHolds();
        tickInOrder();
        tickOfTheDead();
        tickBars();
        soonIsNotBarred();
        divisions();
        nones();
        severalTheFirst();
        holds();
        keysInARow();
        lines();
        errorsOfLines();
        pieces();
        nearestReturns();
        nearestRefused();
        proofReturns();
        proofReadsAsACut();
        proofRefused();
        reverseReturns();
        reverseRefused();
        pairsReturns();
        pairsRefused();
        extremeReturns();
        speedTells();
        speedRefused();
        tickReturns();
        tickRefused();
        tickAtFourHundred();
        guessReturns();
        guessRefused();
        errorReturns();
        piecesReturns();
        piecesRefused();
        Due.end();
    }

    private static void fars() {
        Due.says(0, "FAR of two PLACES: the square of how x, and the square of how y differ, together.");
        int[][] due = {{1, 0, 1}, {0, 1, 1}, {1, 1, 2}, {3, 4, 25}, {4, 3, 25}, {31, 0, 961}, {0, 31, 961}, {31, 31, 1922}};
        for (int[] d : due) {
            CurvekeyHouse house = Stores.rows(5, 8, 0, 32 * d[1] + d[0]);
            Due.is(d[2], "0 0 and " + d[0] + " " + d[1], () -> house.extreme(true));
            Due.is(1, "no farther", () -> house.pairs(d[2]));
            Due.is(0, "no nearer", () -> house.pairs(d[2] - 1));
        }
        CurvekeyHouse back = Stores.rows(3, 8, 63, 57);
        Due.is(36, "x that is less", () -> back.extreme(false));
    }

    private static void nthNearest() {
        Due.says(0, "The NTH NEAREST of a PLACE: POINTS that LIVE by rising FAR, then by rising numbers.");
        // around 3 3, with FAR 4, 1, 1, 2, 4, 0, and 25 of 7 0, 25 of 0 7 and 25 of 6 7
        CurvekeyHouse house = Stores.rows(3, 8, 29, 28, 19, 36, 11, 27, 7, 56, 62);
        int[] due = {5, 1, 2, 3, 0, 4, 6, 7, 8, -1};
        for (int nth = 0; nth < due.length; nth++) {
            int n = nth;
            Due.is(due[n], "nearest(3, 3, " + n + ")", () -> house.nearest(3, 3, n));
        }
        house.remove(1);
        Due.is(2, "then the next one", () -> house.nearest(3, 3, 1));
        house.put(4, 3);
        Due.is(2, "as near, with a smaller number", () -> house.nearest(3, 3, 1));
        Due.is(9, "as near, with a greater number", () -> house.nearest(3, 3, 2));
    }

    private static void pairsLive() {
        Due.says(0, "A PAIR: two POINTS that LIVE.");
        CurvekeyHouse house = Stores.rows(2, 2, 0, 1, 2);
        Due.is(3, "of three", () -> house.pairs(2000));
        house.remove(0);
        Due.is(1, "of two that live", () -> house.pairs(2000));
        Due.is(1, "its far", () -> house.extreme(true));
        house.remove(2);
        Due.is(0, "of one that lives", () -> house.pairs(2000));
        Due.is(-1, "no far", () -> house.extreme(false));
    }

    private static void speeds() {
        Due.says(0, "SPEED of a POINT: by x and y, -3 to 3 each (0 at first).");
        CurvekeyHouse house = Stores.rows(4, 2, 8 * 16 + 8);
        Due.is(0, "by x at first", () -> house.ofPoint(0, 8));
        Due.is(0, "by y at first", () -> house.ofPoint(0, 9));
        Due.is(0, "so it stays", () -> house.tick(9));
        int[][] due = {{3, 3, 11, 11}, {-3, -3, 8, 8}, {0, -3, 8, 5}, {3, 0, 11, 5}, {0, 3, 11, 8}, {-3, 0, 8, 8}};
        for (int[] d : due) {
            house.speed(0, d[0], d[1]);
            Due.is(1, "a tick", () -> house.tick(1));
            Due.is(d[2], "x by " + d[0], () -> house.ofPoint(0, 0));
            Due.is(d[3], "y by " + d[1], () -> house.ofPoint(0, 1));
        }
        house.speed(0, 0, 0);
        Due.is(0, "a speed of 0 and 0", () -> house.tick(9));
        Due.is(0, "bars none", () -> house.many(14));
    }

    private static void tickHolds() {
        Due.says(0, "A TICK: POINT by POINT that LIVES, with a SPEED other than 0 and 0, goes to x and y, "
            + "each with SPEED, HELD to the plane: if that is its own PLACE, it stays");
        CurvekeyHouse house = Stores.rows(3, 2, 63, 8);
        house.speed(0, 3, 3);
        house.speed(1, -1, 0);
        Due.is(0, "both are held to their own places", () -> house.tick(9));
        Due.is(2, "VERSION", () -> house.many(7));
        Due.is(0, "none is barred by itself", () -> house.many(14));
        house.speed(0, 3, -3);
        Due.is(1, "held by x alone, it goes by y", () -> house.tick(1));
        Due.is(7, "x", () -> house.ofPoint(0, 0));
        Due.is(4, "y", () -> house.ofPoint(0, 1));
        house.speed(0, -2, -3);
        Due.is(1, "not held", () -> house.tick(1));
        Due.is(5, "x", () -> house.ofPoint(0, 0));
        Due.is(1, "y", () -> house.ofPoint(0, 1));
        Due.is(1, "held by y", () -> house.tick(1));
        Due.is(3, "x", () -> house.ofPoint(0, 0));
        Due.is(0, "y", () -> house.ofPoint(0, 1));
        Due.is(2, "to the corner, then it stays", () -> house.tick(5));
        Due.is(0, "x", () -> house.ofPoint(0, 0));
        Due.is(0, "y", () -> house.ofPoint(0, 1));
    }

    private static void tickInOrder() {
        Due.says(0, "A TICK: POINT by POINT that LIVES");
        CurvekeyHouse house = Stores.rows(3, 2, 2, 1, 0);
        for (int point = 0; point < 3; point++) {
            house.speed(point, 1, 0);
        }
        Due.is(3, "the first one leaves its place to the next one", () -> house.tick(1));
        Due.is(0, "none is barred", () -> house.many(14));
        for (int point = 0; point < 3; point++) {
            house.speed(point, -1, 0);
        }
        Due.is(1, "the other way 3 is barred by 2, 2 by 1, and 1 goes", () -> house.tick(1));
        Due.is(2, "two are barred", () -> house.many(14));
        Due.text("2.10....", "the row", house.row(0));
        house.remove(2);
        Due.is(1, "3 is barred by 2 again; who is gone neither goes nor bars", () -> house.tick(1));
        Due.is(3, "three are barred", () -> house.many(14));
        Due.text(".1.0....", "the row", house.row(0));
        Due.is(2, "to 2, and to 0, where one is gone", () -> house.tick(1));
        Due.text("1.0.....", "the row", house.row(0));
        Due.is(1, "in each tick anew: 1 is held, 0 goes to 1", () -> house.tick(1));
        Due.is(3, "three are barred", () -> house.many(14));
        Due.is(0, "then 0 is barred", () -> house.tick(2));
        Due.is(5, "twice", () -> house.many(14));
    }

    private static void tickOfTheDead() {
        Due.says(0, "A TICK: POINT by POINT that LIVES, with a SPEED other than 0 and 0");
        CurvekeyHouse house = Stores.rows(3, 2, 27, 36, 0, 63);
        house.speed(0, 1, 1);
        house.speed(1, -1, -1);
        house.speed(2, 3, 3);
        house.remove(2);
        Due.is(0, "two that bar each other, and one that is gone, with a free way", () -> house.tick(1));
        Due.is(2, "two are barred", () -> house.many(14));
        house.remove(1);
        Due.is(3, "one goes to 6 6, beside one that lives", () -> house.tick(9));
        Due.is(8, "and is barred six times", () -> house.many(14));
        Due.is(9, "VERSION", () -> house.many(7));
        Due.is(4, "x of the one that is gone", () -> house.ofPoint(1, 0));
    }

    private static void tickBars() {
        Due.says(0, "if a POINT LIVES there, it is BARRED (and stays); otherwise it moves.");
        CurvekeyHouse house = Stores.rows(3, 2, 0, 1, 9);
        house.speed(0, 1, 0);
        Due.is(0, "barred", () -> house.tick(9));
        Due.is(9, "nine times", () -> house.many(14));
        Due.is(3, "VERSION", () -> house.many(7));
        house.remove(1);
        Due.is(1, "a tomb does not bar", () -> house.tick(1));
        house.speed(0, 0, 1);
        Due.is(0, "barred by y", () -> house.tick(1));
        Due.is(10, "once more", () -> house.many(14));
        house.speed(2, 1, 0);
        Due.is(1, "who bars goes behind it, too late", () -> house.tick(1));
        Due.is(11, "once more", () -> house.many(14));
        Due.is(2, "now both go", () -> house.tick(1));
        Due.is(11, "no more", () -> house.many(14));
    }

    private static void soonIsNotBarred() {
        Due.says(0, "SOON: where it would be after so many TICKS, if nobody barred it (HELD each time).");
        CurvekeyHouse house = Stores.rows(3, 2, 0, 1);
        house.speed(0, 1, 0);
        Due.is(2, "both at 1 0", () -> house.soon(1, 0, 1, 1, 1));
        Due.is(1, "beyond it", () -> house.soon(2, 0, 1, 1, 2));
        Due.is(0, "though it is barred", () -> house.tick(1));
        Due.is(1, "at last at the side", () -> house.soon(7, 0, 1, 1, 7));
        Due.is(1, "and it stays there", () -> house.soon(7, 0, 1, 1, 8));
        house.speed(0, 3, 2);
        Due.is(1, "held by x, not yet by y", () -> house.soon(7, 6, 1, 1, 3));
        Due.is(1, "held by both", () -> house.soon(7, 7, 1, 1, 4));
        house.speed(1, -3, -3);
        Due.is(1, "the other one is held to 0 and 0", () -> house.soon(0, 0, 1, 1, 1));
        Due.is(1, "where the first one is", () -> house.soon(0, 0, 1, 1, 0));
    }

    private static void divisions() {
        Due.says(0, "Whole numbers; what is divided is rounded down (all of that is 0 or more).");
        CurvekeyHouse house = Stores.rows(3, 2, 0, 1, 2);
        Due.is(1, "half of 3 entries", () -> house.ofPage(0, 1));
        house.put(3, 0);
        house.put(4, 0);
        Due.is(4, "PAGES", () -> house.many(5));
        house.share(3);
        int[] due = {0, 0, 1, 2};
        for (int page = 0; page < 4; page++) {
            int p = page;
            Due.is(due[p], p + " * 3 / 4", () -> house.ofPage(p, 5));
        }
        Due.is(1, "5 * 3 / 8", () -> Stores.rows(3, 8, 0, 2, 3, 8).guess(5, false));
        Due.is(2, "7 * 3 / 8", () -> Stores.rows(3, 8, 0, 2, 3, 8).guess(7, false));
    }

    private static void nones() {
        Due.says(0, "NONE is -1.");
        CurvekeyHouse house = new CurvekeyHouse();
        Due.is(-1, "the nearest of none", () -> house.nearest(0, 0, 0));
        Due.is(-1, "its proof", () -> house.proof(0, 0, 0));
        Due.is(-1, "extreme", () -> house.extreme(true));
        Due.is(-1, "extreme", () -> house.extreme(false));
        Due.is(-1, "error", house::error);
        Due.is(-1, "guess", () -> house.guess(0, false));
        Due.is(-1, "tile", () -> house.tile(0, 0, false));
        Due.is(-1, "first entry", () -> house.ofPage(0, 3));
    }

    private static void severalTheFirst() {
        Due.says(0, "is the one with the smallest number.");
        Due.is(0, "the best of six as good", () -> new CurvekeyHouse().best(1, 1, true));
        Due.is(0, "the fullest of 64 without points", () -> new CurvekeyHouse().fullest(3, true));
        Due.is(1, "the fullest of two with one each", () -> Stores.rows(1, 2, 3, 1).fullest(1, true));
        Due.is(0, "the nearest of two", () -> Stores.rows(1, 2, 3, 0).nearest(1, 0, 0));
    }

    private static void holds() {
        Due.says(0, "To HOLD a number to a and b: a, if it is less, b, if it is more.");
        CurvekeyHouse house = Stores.rows(3, 8, 27, 20, 30);
        Due.is(0, "less than a", () -> house.speed(0, -3, 0));
        Due.is(1, "a is x 0", () -> house.soon(0, 3, 1, 1, 1));
        Due.is(6, "neither", () -> house.speed(0, 3, 0));
        Due.is(7, "more than b", () -> house.speed(2, 3, 0));
        Due.is(0, "a key that is less", () -> house.guess(19, false));
        Due.is(0, "a key that is far less, for which the line would guess -4", () -> house.guess(0, false));
        Due.is(0, "the least key", () -> house.guess(20, false));
        Due.is(2, "the greatest key", () -> house.guess(30, false));
        Due.is(2, "a key that is more", () -> house.guess(31, false));
        Due.is(2, "a key that is far more, for which the line would guess 8", () -> house.guess(63, false));
    }

    private static void keysInARow() {
        Due.says(0, "KEYS of POINTS that LIVE, the smallest one first, stand in a row, from 0 on.");
        CurvekeyHouse house = Stores.rows(3, 2, 63, 0, 30, 31);
        int[][] due = {{0, 0}, {1, 1}, {30, 1}, {31, 2}, {32, 3}, {63, 3}};
        for (int[] d : due) {
            Due.is(d[1], "smaller than " + d[0], () -> house.guess(d[0], true));
        }
        house.remove(2);
        Due.is(1, "31 comes behind 0 as 30 is gone", () -> house.guess(31, true));
        house.move(1, 0, 4);
        Due.is(0, "31 is the first as 0 is 32", () -> house.guess(31, true));
        Due.is(1, "32 is the second", () -> house.guess(32, true));
    }

    private static void lines() {
        Due.says(0, "A LINE from one of them (a-th, with the KEY A) to a later one (b-th, B) guesses of a KEY K between: "
            + "a + (K - A) * (b - a) / (B - A) (a, if both are one).");
        CurvekeyHouse house = Stores.rows(3, 8, 30, 10, 20);
        int[][] due = {{10, 0}, {11, 0}, {19, 0}, {20, 1}, {21, 1}, {29, 1}, {30, 2}};
        for (int[] d : due) {
            Due.is(d[1], "guess of " + d[0], () -> house.guess(d[0], false));
        }
        CurvekeyHouse one = Stores.rows(3, 8, 30);
        Due.is(0, "one point, its key", () -> one.guess(30, false));
        Due.is(0, "one point, the first key", () -> one.guess(0, false));
        Due.is(0, "one point, the last key", () -> one.guess(63, false));
        CurvekeyHouse ends = Stores.rows(5, 8, 0, 1023);
        Due.is(0, "1022 / 1023", () -> ends.guess(1022, false));
        Due.is(1, "1023 / 1023", () -> ends.guess(1023, false));
        Due.is(79, "a full store's last", () -> Stores.full().guess(255, false));
    }

    private static void errorsOfLines() {
        Due.says(0, "Its ERROR is the greatest amount by which it errs, of all of them from the a-th to the b-th "
            + "(0, if both are one).");
        Due.is(0, "one", () -> Stores.rows(3, 8, 30).error());
        Due.is(0, "two", () -> Stores.rows(3, 8, 30, 63).error());
        Due.is(2, "too low: 0, 0, 0 and 3 for 0, 1, 2 and 63", () -> Stores.rows(3, 8, 0, 1, 2, 63).error());
        Due.is(1, "too high: 2 and 2 for 61 and 62", () -> Stores.rows(3, 8, 0, 61, 62, 63).error());
        Due.is(0, "evenly", () -> Stores.rows(3, 8, 0, 21, 42, 63).error());
        Due.is(1, "a bit less than evenly", () -> Stores.rows(3, 8, 0, 20, 42, 63).error());
        CurvekeyHouse house = Stores.rows(3, 8, 0, 1, 2, 63);
        house.remove(3);
        Due.is(0, "of those that live", house::error);
    }

    private static void pieces() {
        Due.says(0, "PIECES for an ERROR e: from the first one on the LINE goes as far as it can, so that it, "
            + "and each shorter one from there, has an ERROR of e or less; the next one begins behind it.");
        CurvekeyHouse house = Stores.rows(3, 8, 0, 1, 2, 10, 11, 12);
        Due.is(2, "0 1 2, and 10 11 12, which begins behind it", () -> house.pieces(0));
        Due.is(2, "0 1 2 10 has the ERROR 2", () -> house.pieces(1));
        Due.is(1, "so have 0 1 2 10 11 and all", () -> house.pieces(2));
        CurvekeyHouse again = Stores.rows(3, 8, 0, 2, 5, 6);
        Due.is(0, "the whole line would do", again::error);
        Due.is(2, "but a shorter one does not", () -> again.pieces(0));
        Due.is(1, "it does for 1", () -> again.pieces(1));
        CurvekeyHouse low = Stores.rows(3, 8, 0, 1, 2, 63);
        Due.is(2, "just below its ERROR: the last one is alone", () -> low.pieces(1));
        Due.is(1, "just its ERROR", () -> low.pieces(2));
        CurvekeyHouse rough = Stores.rows(3, 8, 0, 10, 11, 30, 31, 63);
        Due.is(3, "0 10 11, 30 31, 63", () -> rough.pieces(0));
        Due.is(2, "0 10 11 30 31, 63", () -> rough.pieces(1));
        Due.is(1, "all", () -> rough.pieces(2));
        rough.remove(2);
        rough.remove(3);
        Due.is(2, "of those that live: 0 10, 31 63", () -> rough.pieces(0));
    }

    private static void nearestReturns() {
        Due.says(22, "- `nth`: which one, from 0 on");
        CurvekeyHouse two = Stores.rows(3, 2, 0, 63);
        Due.is(1, "0 is the nearest one", () -> two.nearest(7, 7, 0));
        Due.is(0, "1 is the next one", () -> two.nearest(7, 7, 1));
        Due.is(-1, "2 is none", () -> two.nearest(7, 7, 2));
        Due.says(22, "Returns the NTH NEAREST; NONE, if there are not so many.");
        Due.is(-1, "none", () -> new CurvekeyHouse().nearest(7, 7, 0));
        CurvekeyHouse house = Stores.full();
        Due.is(0, "the first of 80", () -> house.nearest(0, 0, 0));
        Due.is(79, "the last of 80: 15 4", () -> house.nearest(0, 0, 79));
        Due.is(-1, "an 81st", () -> house.nearest(0, 0, 80));
        Due.is(-1, "the most", () -> house.nearest(0, 0, Integer.MAX_VALUE));
        CurvekeyHouse gone = Stores.oneGone();
        Due.is(2, "the last that lives", () -> gone.nearest(0, 0, 1));
        Due.is(-1, "not as many as were put", () -> gone.nearest(0, 0, 2));
    }

    private static void nearestRefused() {
        Due.says(22, "Throws `IllegalArgumentException` if there is no such PLACE, or nth is below 0");
        Due.ranges(0, 7, ARGUMENT, "nearest at x", Stores::busy, (h, x) -> h.nearest(x, 7, 0));
        Due.ranges(0, 7, ARGUMENT, "nearest at y", Stores::busy, (h, y) -> h.nearest(7, y, 0));
        Due.refuses(ARGUMENT, "nearest of -1", Stores::busy, h -> h.nearest(0, 0, -1));
        Due.refuses(ARGUMENT, "nearest of the least", Stores::busy, h -> h.nearest(0, 0, Integer.MIN_VALUE));
        Due.refuses(ARGUMENT, "nearest of -1 of none", CurvekeyHouse::new, h -> h.nearest(0, 0, -1));
        Due.allows("nearest of 0 of none", CurvekeyHouse::new, h -> h.nearest(0, 0, 0));
    }

    private static void proofReturns() {
        Due.says(23, "- `nth`: which one, from 0 on");
        CurvekeyHouse three = Stores.rows(3, 2, 0, 1, 63);
        Due.is(1, "0 is at the place itself", () -> three.proof(7, 7, 0));
        Due.is(2, "1 is far", () -> three.proof(7, 7, 1));
        Due.is(2, "2 is the last one", () -> three.proof(7, 7, 2));
        Due.is(-1, "3 is none", () -> three.proof(7, 7, 3));
        Due.says(23, "with the smallest r whose square is not below FAR of the NTH NEAREST");
        // one at the place told, FAR 0, 1, 2, 4, 5, 9, 10, 13 and 16 of 0 0, and far ones that begin a page for each row
        int[][] due = {{0, 0, 0}, {1, 0, 1}, {1, 1, 2}, {2, 0, 2}, {1, 2, 3}, {3, 0, 3}, {3, 1, 4}, {2, 3, 4}, {4, 0, 4}};
        for (int[] d : due) {
            CurvekeyHouse house = Stores.rows(5, 2, 30);
            for (int y = 0; y < 10; y++) {
                house.put(31, y);
            }
            house.put(d[0], d[1]);
            int r = d[2];
            int read = house.cut(0, 0, r + 1, r + 1, 99, 2);
            Due.yes("a greater r reads more", house.cut(0, 0, r + 2, r + 2, 99, 2) > read);
            Due.is(read, "as a cut of r " + r, () -> house.proof(0, 0, 0));
        }
        CurvekeyHouse column = Stores.rows(3, 2, 0, 8, 16, 24, 32, 40, 48, 56);
        Due.is(7, "pages from 0, 8, 16 and so on, two at last", () -> column.many(5));
        int[] pages = {1, 2, 3, 4, 5, 6, 7, 7};
        for (int nth = 0; nth < 8; nth++) {
            int n = nth;
            Due.is(pages[n], "r is " + n, () -> column.proof(0, 0, n));
        }
        Due.is(3, "around 0 3, r is 1", () -> column.proof(0, 3, 1));
        Due.is(5, "r is 2 for FAR 2: rows 1 to 5", () -> column.proof(1, 3, 1));
        Due.says(23, "NONE, if there are not so many.");
        Due.is(-1, "a ninth", () -> column.proof(0, 0, 8));
        Due.is(-1, "of none", () -> new CurvekeyHouse().proof(0, 0, 0));
        Due.is(-1, "the most", () -> column.proof(0, 0, Integer.MAX_VALUE));
        Due.is(1, "of one, however far", () -> Stores.rows(5, 2, 1023).proof(0, 0, 0));
        CurvekeyHouse full = Stores.full();
        Due.is(full.many(5), "the last of 80 is so far that all is read", () -> full.proof(0, 0, 79));
        Due.is(1, "the first of 80", () -> full.proof(0, 0, 0));
        Due.is(-1, "an 81st", () -> full.proof(0, 0, 80));
    }

    private static void proofReadsAsACut() {
        Due.says(23, "Returns how many PAGES would be READ for the BOX (as far as it is on the plane) around that PLACE "
            + "that has all PLACES with x and y less or more by r or less");
        for (int y = 0; y < 8; y++) {
            CurvekeyHouse house = Stores.busy();
            for (int x = 0; x < 8; x++) {
                for (int nth = 0; nth < 9; nth += 2) {
                    int px = x;
                    int py = y;
                    int n = nth;
                    Due.is(readAround(house, x, y, nth), "proof(" + x + ", " + y + ", " + nth + ")",
                        () -> house.proof(px, py, n));
                }
            }
        }
        Due.changesNothing("proof", Stores::busy, h -> h.proof(3, 3, 5));
    }

    private static int readAround(CurvekeyHouse house, int x, int y, int nth) {
        int point = house.nearest(x, y, nth);
        int wide = house.ofPoint(point, 0) - x;
        int high = house.ofPoint(point, 1) - y;
        int r = 0;
        while (r * r < wide * wide + high * high) {
            r++;
        }
        int left = Math.max(0, x - r);
        int low = Math.max(0, y - r);
        return house.cut(left, low, Math.min(7, x + r) - left + 1, Math.min(7, y + r) - low + 1, 99, 2);
    }

    private static void proofRefused() {
        Due.says(23, "Throws `IllegalArgumentException` if there is no such PLACE, or nth is below 0");
        Due.ranges(0, 7, ARGUMENT, "proof at x", Stores::busy, (h, x) -> h.proof(x, 7, 8));
        Due.ranges(0, 7, ARGUMENT, "proof at y", Stores::busy, (h, y) -> h.proof(7, y, 8));
        Due.refuses(ARGUMENT, "proof of -1", Stores::busy, h -> h.proof(0, 0, -1));
        Due.refuses(ARGUMENT, "proof of the least", Stores::busy, h -> h.proof(0, 0, Integer.MIN_VALUE));
        Due.refuses(ARGUMENT, "proof of -1 of none", CurvekeyHouse::new, h -> h.proof(0, 0, -1));
        Due.allows("proof of 0 of none", CurvekeyHouse::new, h -> h.proof(0, 0, 0));
    }

    private static void reverseReturns() {
        Due.says(24, "Returns how many other POINTS that LIVE have it as their nearest one but themselves "
            + "(of several as near that with the smallest number); 0, if it does not LIVE.");
        Due.is(0, "one alone", () -> Stores.rows(3, 2, 9).reverse(0));
        CurvekeyHouse two = Stores.rows(3, 2, 0, 63);
        Due.is(1, "of two each has the other", () -> two.reverse(0));
        Due.is(1, "of two each has the other", () -> two.reverse(1));
        CurvekeyHouse cross = Stores.rows(3, 8, 19, 35, 26, 28, 27);
        Due.is(4, "the middle one is the nearest of four", () -> cross.reverse(4));
        Due.is(1, "of four as near it has the first one", () -> cross.reverse(0));
        Due.is(0, "not the second one", () -> cross.reverse(1));
        cross.remove(0);
        Due.is(0, "one that is gone", () -> cross.reverse(0));
        Due.is(1, "now the second one", () -> cross.reverse(1));
        Due.is(3, "of three that live", () -> cross.reverse(4));
        cross.remove(4);
        Due.is(0, "the middle one is gone", () -> cross.reverse(4));
        Due.is(2, "three as near: 2 and 3 have 1", () -> cross.reverse(1));
        Due.is(1, "1 has 2", () -> cross.reverse(2));
        Due.is(0, "none has 3", () -> cross.reverse(3));
        CurvekeyHouse full = Stores.full();
        Due.is(2, "of 80 the first is that of the one beside and the one above", () -> full.reverse(0));
        Due.is(0, "the last one is that of none", () -> full.reverse(79));
        Due.is(2, "one below, of the one beside and the one above", () -> full.reverse(14));
    }

    private static void reverseRefused() {
        Due.says(24, "Throws `IndexOutOfBoundsException` if there is no such POINT");
        Due.ranges(0, 10, INDEX, "reverse of the point", Stores::busy, (h, point) -> h.reverse(point));
        Due.refuses(INDEX, "reverse of none", CurvekeyHouse::new, h -> h.reverse(0));
        Due.refuses(INDEX, "reverse of the 81st", Stores::full, h -> h.reverse(80));
        Due.allows("reverse of one that is gone", Stores::busy, h -> h.reverse(1));
    }

    private static void pairsReturns() {
        Due.says(25, "Returns how many PAIRS are that FAR, or less.");
        CurvekeyHouse house = Stores.rows(5, 8, 0, 1, 1023);
        int[][] due = {{0, 0}, {1, 1}, {1860, 1}, {1861, 2}, {1921, 2}, {1922, 3}, {2000, 3}};
        for (int[] d : due) {
            Due.is(d[1], "pairs(" + d[0] + ")", () -> house.pairs(d[0]));
        }
        Due.is(3160, "of 80 points", () -> Stores.full().pairs(2000));
        Due.is(75 + 64, "of 80 points side by side", () -> Stores.full().pairs(1));
        Due.is(0, "none is at the place of another one", () -> Stores.full().pairs(0));
        Due.is(0, "of no point", () -> new CurvekeyHouse().pairs(2000));
        Due.is(0, "of one point", () -> Stores.rows(3, 2, 9).pairs(2000));
    }

    private static void pairsRefused() {
        Due.says(25, "Throws `IllegalArgumentException` if far is not 0 to 2000");
        Due.ranges(0, 2000, ARGUMENT, "pairs", Stores::busy, (h, far) -> h.pairs(far));
        Due.ranges(0, 2000, ARGUMENT, "pairs", CurvekeyHouse::new, (h, far) -> h.pairs(far));
    }

    private static void extremeReturns() {
        Due.says(26, "Returns its FAR; NONE without a PAIR.");
        for (boolean isFarthest : new boolean[] {true, false}) {
            Due.is(-1, "no point", () -> new CurvekeyHouse().extreme(isFarthest));
            Due.is(-1, "one point", () -> Stores.rows(3, 2, 9).extreme(isFarthest));
            Due.is(1922, "two points", () -> Stores.rows(5, 2, 1023, 0).extreme(isFarthest));
            Due.is(4, "two that live", () -> Stores.oneGone().extreme(isFarthest));
        }
        CurvekeyHouse house = Stores.oneGone();
        house.remove(0);
        Due.is(-1, "one that lives", () -> house.extreme(true));
        Due.is(1, "the closest of 80", () -> Stores.full().extreme(false));
        Due.is(241, "the farthest of 80", () -> Stores.full().extreme(true));
        Due.is(2, "the last pair is the farthest", () -> Stores.rows(1, 2, 1, 0, 3).extreme(true));
        Due.says(26, "- `isFarthest`: whether the farthest PAIR, otherwise the closest one");
        CurvekeyHouse three = Stores.rows(3, 2, 0, 2, 7);
        Due.is(49, "0 and 7", () -> three.extreme(true));
        Due.is(4, "0 and 2", () -> three.extreme(false));
    }

    private static void speedTells() {
        Due.says(27, "Returns x of it after one TICK, as it would be SOON.");
        CurvekeyHouse house = Stores.rows(3, 2, 27, 28, 0, 63);
        int[][] due = {{0, -3, 0, 0}, {0, 3, 0, 6}, {0, 0, 3, 3}, {0, 1, 0, 4}, {2, -1, 0, 0}, {2, 3, 3, 3}, {3, 1, 1, 7},
            {3, -3, -3, 4}, {3, 0, 0, 7}};
        for (int[] d : due) {
            Due.is(d[3], "speed(" + d[0] + ", " + d[1] + ", " + d[2] + ")", () -> house.speed(d[0], d[1], d[2]));
            Due.is(d[1], "its speed by x", () -> house.ofPoint(d[0], 8));
            Due.is(d[2], "its speed by y", () -> house.ofPoint(d[0], 9));
        }
        Due.is(4, "VERSION", () -> house.many(7));
        Due.is(4, "to x 4, though one lives there", () -> house.speed(0, 1, 0));
        Due.is(3, "it is where it was", () -> house.ofPoint(0, 0));
        Due.is(0, "none is barred yet", () -> house.many(14));
    }

    private static void speedRefused() {
        Due.says(27, "Throws `IndexOutOfBoundsException` if there is no such POINT");
        Due.ranges(0, 10, INDEX, "speed of the point", Stores::busy, (h, point) -> h.speed(point, 0, 0));
        Due.refuses(INDEX, "speed of none", CurvekeyHouse::new, h -> h.speed(0, 0, 0));
        Due.refuses(INDEX, "speed of none, too fast", Stores::busy, h -> h.speed(11, 4, 0));
        Due.refuses(INDEX, "speed of none, too fast", Stores::busy, h -> h.speed(-1, 0, -4));
        Due.says(27, "Throws `IllegalArgumentException` if x or y is not -3 to 3");
        Due.ranges(-3, 3, ARGUMENT, "speed by x", Stores::busy, (h, x) -> h.speed(3, x, 0));
        Due.ranges(-3, 3, ARGUMENT, "speed by y", Stores::busy, (h, y) -> h.speed(3, 0, y));
        Due.refuses(ARGUMENT, "speed of one that is gone, too fast", Stores::busy, h -> h.speed(1, 4, 0));
        Due.refuses(ARGUMENT, "speed of one that is gone, too fast", Stores::busy, h -> h.speed(1, 0, -4));
        Due.says(27, "Throws `IllegalStateException` if it does not LIVE");
        Due.refuses(STATE, "speed of one that is gone", Stores::busy, h -> h.speed(1, 3, -3));
        Due.refuses(STATE, "speed of one that is gone", Stores::busy, h -> h.speed(4, 0, 0));
    }

    private static void tickReturns() {
        Due.says(28, "Returns how many moves there were.");
        Due.is(0, "without points", () -> new CurvekeyHouse().tick(9));
        Due.is(0, "of 80 without speeds", () -> Stores.full().tick(9));
        CurvekeyHouse house = Stores.rows(3, 2, 0, 63, 32);
        house.speed(0, 1, 0);
        house.speed(1, -3, 0);
        Due.is(2, "one tick", () -> house.tick(1));
        Due.is(5, "VERSION", () -> house.many(7));
        Due.is(8, "nine more: six of the first one, two of the second one", () -> house.tick(9));
        Due.is(7, "x of the first one", () -> house.ofPoint(0, 0));
        Due.is(0, "x of the second one", () -> house.ofPoint(1, 0));
        Due.is(13, "VERSION", () -> house.many(7));
        Due.is(13, "SPELLS", () -> house.many(8));
        Due.is(1, "at x 1 as of the first tick", () -> house.asOf(1, 0, 1, 1, 4));
        Due.is(1, "at x 7 still, as the points go one by one", () -> house.asOf(7, 7, 1, 1, 4));
        Due.is(0, "then not", () -> house.asOf(7, 7, 1, 1, 5));
    }

    private static void tickRefused() {
        Due.says(28, "Throws `IllegalArgumentException` if ticks is not 1 to 9");
        Due.ranges(1, 9, ARGUMENT, "tick", Stores::busy, (h, ticks) -> h.tick(ticks));
        Due.ranges(1, 9, ARGUMENT, "tick", CurvekeyHouse::new, (h, ticks) -> h.tick(ticks));
        Due.refuses(ARGUMENT, "tick behind too many spells", () -> spells(401), h -> h.tick(0));
        Due.refuses(ARGUMENT, "tick behind too many spells", () -> spells(401), h -> h.tick(10));
    }

    /** 400 spells by 80 points, which all go on, or 401. */
    private static CurvekeyHouse spells(int many) {
        CurvekeyHouse house = Stores.empty(5, 0, 8);
        for (int number = 0; number < 80; number++) {
            house.put(number % 32, 2 - number / 32);
            house.speed(number, 0, 1);
        }
        house.tick(4);
        for (int spell = 400; spell < many; spell++) {
            house.move(0, 0, 31);
        }
        return house;
    }

    private static void tickAtFourHundred() {
        Due.says(28, "Throws `IllegalStateException` if there are more than 400 SPELLS already");
        Due.is(400, "SPELLS", () -> spells(400).many(8));
        Due.is(80, "a tick behind 400 spells", () -> spells(400).tick(1));
        Due.is(720, "nine ticks behind 400 spells", () -> spells(400).tick(9));
        CurvekeyHouse gone = spells(400);
        gone.remove(7);
        Due.is(401, "VERSION is more than 400", () -> gone.many(7));
        Due.is(79, "but SPELLS are not", () -> gone.tick(1));
        Due.is(401, "SPELLS", () -> spells(401).many(8));
        Due.refuses(STATE, "a tick behind 401 spells", () -> spells(401), h -> h.tick(1));
        Due.refuses(STATE, "nine ticks behind 401 spells", () -> spells(401), h -> h.tick(9));
        CurvekeyHouse house = spells(401);
        house.remove(5);
        Due.is(401, "spells of one that is gone count too", () -> house.many(8));
        Due.text(STATE.getName(), "a tick", Picture.thrownBy(house, h -> h.tick(1)));
        house.found(5, 0, 8);
        Due.is(0, "a store founded anew may tick", () -> house.tick(9));
    }

    private static void guessReturns() {
        Due.says(29, "- `isTrue`: whether how many POINTS LIVE with a smaller KEY, otherwise what the LINE from the first "
            + "to the last KEY guesses (HELD to KEYS between both)");
        CurvekeyHouse house = Stores.rows(3, 8, 40, 20, 10);
        int[][] due = {{0, 0, 0}, {9, 0, 0}, {10, 0, 0}, {11, 1, 0}, {20, 1, 0}, {21, 2, 0}, {25, 2, 1}, {39, 2, 1},
            {40, 2, 2}, {41, 3, 2}, {63, 3, 2}};
        for (int[] d : due) {
            Due.is(d[1], "true of " + d[0], () -> house.guess(d[0], true));
            Due.is(d[2], "guess of " + d[0], () -> house.guess(d[0], false));
        }
        house.remove(0);
        Due.is(2, "of those that live", () -> house.guess(63, true));
        Due.is(1, "the last that lives", () -> house.guess(63, false));
        Due.is(79, "all of a full store, but the one at the key", () -> Stores.full().guess(255, true));
        Due.says(29, "NONE for the guess without POINTS.");
        Due.is(-1, "no points", () -> new CurvekeyHouse().guess(0, false));
        Due.is(-1, "no points", () -> new CurvekeyHouse().guess(63, false));
        Due.is(0, "no points, but true", () -> new CurvekeyHouse().guess(63, true));
        house.remove(1);
        house.remove(2);
        Due.is(-1, "all are gone", () -> house.guess(10, false));
        Due.is(0, "all are gone, but true", () -> house.guess(63, true));
    }

    private static void guessRefused() {
        Due.says(29, "Throws `IllegalArgumentException` if there is no such KEY");
        for (boolean isTrue : new boolean[] {true, false}) {
            Due.ranges(0, 63, ARGUMENT, "guess of the key", Stores::busy, (h, key) -> h.guess(key, isTrue));
            Due.ranges(0, 63, ARGUMENT, "guess of the key", CurvekeyHouse::new, (h, key) -> h.guess(key, isTrue));
            Due.ranges(0, 3, ARGUMENT, "guess of the key", Stores::crowded, (h, key) -> h.guess(key, isTrue));
            Due.ranges(0, 1023, ARGUMENT, "guess of the key", () -> Stores.rows(5, 2, 5), (h, key) -> h.guess(key, isTrue));
        }
    }

    private static void errorReturns() {
        Due.says(30, "Returns the ERROR of the LINE from the first to the last KEY; NONE without POINTS.");
        Due.is(-1, "no points", () -> new CurvekeyHouse().error());
        Due.is(0, "one point", () -> Stores.rows(3, 2, 63).error());
        CurvekeyHouse house = Stores.rows(3, 2, 0, 1, 2, 63);
        Due.is(2, "four points", house::error);
        house.remove(1);
        Due.is(1, "0, 2 and 63", house::error);
        house.remove(0);
        house.remove(2);
        Due.is(0, "one is left", house::error);
        house.remove(3);
        Due.is(-1, "none is left", house::error);
        Due.is(0, "a full plane", () -> Stores.crowded().error());
        CurvekeyHouse far = Stores.empty(5, 0, 8);
        for (int x = 0; x < 79; x++) {
            far.put(x % 32, x / 32);
        }
        far.put(31, 31);
        Due.is(72, "the key 78 is taken for 78 * 79 / 1023, which is 6", far::error);
    }

    private static void piecesReturns() {
        Due.says(31, "Returns how many PIECES (0 without POINTS).");
        Due.is(0, "no points", () -> new CurvekeyHouse().pieces(0));
        Due.is(0, "no points", () -> new CurvekeyHouse().pieces(80));
        Due.is(1, "one point", () -> Stores.rows(3, 2, 63).pieces(0));
        Due.is(1, "two points", () -> Stores.rows(3, 2, 63, 0).pieces(0));
        Due.is(1, "a full plane", () -> Stores.crowded().pieces(0));
        Due.is(1, "a full store for 80", () -> Stores.full().pieces(80));
        CurvekeyHouse house = Stores.oneGone();
        house.remove(0);
        house.remove(2);
        Due.is(0, "none is left", () -> house.pieces(0));
    }

    private static void piecesRefused() {
        Due.says(31, "Throws `IllegalArgumentException` if error is not 0 to 80");
        Due.ranges(0, 80, ARGUMENT, "pieces for an ERROR", Stores::busy, (h, error) -> h.pieces(error));
        Due.ranges(0, 80, ARGUMENT, "pieces for an ERROR", CurvekeyHouse::new, (h, error) -> h.pieces(error));
    }
}
