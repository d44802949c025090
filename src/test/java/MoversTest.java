/** Promises 22 to 31: neighbours, movers and guesses. */
public final class MoversTest {
    private static final Class<?> ARGUMENT = IllegalArgumentException.class;
    private static final Class<?> STATE = IllegalStateException.class;
    private static final Class<?> INDEX = IndexOutOfBoundsException.class;

    public static void main(String[] args) {
        nearest();
        proof();
        reverse();
        pairsAndExtremes();
        speed();
        tick();
        tickLimit();
        guess();
        errorAndPieces();
        Due.end();
    }

    private static CurvekeyHouse four() {
        CurvekeyHouse house = new CurvekeyHouse();
        house.put(0, 0);
        house.put(3, 4);
        house.put(0, 2);
        house.put(7, 7);
        return house;
    }

    private static void nearest() {
        CurvekeyHouse house = four();
        int[] due = {0, 2, 1, 3, -1};
        for (int nth = 0; nth < due.length; nth++) {
            int n = nth;
            Due.is(due[n], "nearest(0, 0, " + n + ")", () -> house.nearest(0, 0, n));
        }
        Due.is(-1, "nearest of MAX", () -> house.nearest(0, 0, Integer.MAX_VALUE));
        Due.is(0, "as near: the smaller number", () -> house.nearest(0, 1, 0));
        Due.is(2, "as near: the greater number", () -> house.nearest(0, 1, 1));
        house.remove(0);
        Due.is(2, "only those that live", () -> house.nearest(0, 0, 0));
        Due.fails(ARGUMENT, "nth -1", house, () -> house.nearest(0, 0, -1));
        Due.fails(ARGUMENT, "nth MIN", house, () -> house.nearest(0, 0, Integer.MIN_VALUE));
        Due.fails(ARGUMENT, "x 8", house, () -> house.nearest(8, 0, 0));
        Due.fails(ARGUMENT, "y -1", house, () -> house.nearest(0, -1, 0));
    }

    private static void proof() {
        CurvekeyHouse house = new CurvekeyHouse();
        Due.is(-1, "no points", () -> house.proof(0, 0, 0));
        house.found(3, 0, 2);
        house.put(0, 0);
        house.put(3, 0);
        house.put(6, 0);
        house.put(0, 6);
        // pages: 0 alone, then 3 alone, then 6 and 48
        Due.is(3, "PAGES", () -> house.many(5));
        Due.is(1, "r is 0", () -> house.proof(0, 0, 0));
        Due.is(1, "r is 0 at 3, 0", () -> house.proof(3, 0, 0));
        Due.is(3, "r is 3: rows 0 to 3, 0 to 3", () -> house.proof(0, 0, 1));
        Due.is(1, "r is 1, far 1, rows 5 to 7", () -> house.proof(1, 6, 0));
        Due.is(1, "r is 2 for far 2: rows 5 to 7", () -> house.proof(1, 7, 0));
        Due.is(-1, "not so many", () -> house.proof(0, 0, 4));
        proofAtTheSides();
        Due.is(0, "nothing is counted", () -> house.many(9));
        Due.fails(ARGUMENT, "proof(8, 0, 0)", house, () -> house.proof(8, 0, 0));
        Due.fails(ARGUMENT, "proof(0, 8, 0)", house, () -> house.proof(0, 8, 0));
        Due.fails(ARGUMENT, "proof(0, 0, -1)", house, () -> house.proof(0, 0, -1));
    }

    /** A page for nearly each place of the rows 0 and 7, so that a box that is too wide or too high is seen. */
    private static void proofAtTheSides() {
        CurvekeyHouse house = new CurvekeyHouse();
        house.found(3, 0, 2);
        for (int x = 0; x < 8; x++) {
            house.put(x, 0);
            house.put(x, 7);
        }
        // floors 0 to 6 and 56 to 62: keys 6 to 55 have one page
        Due.is(14, "PAGES", () -> house.many(5));
        Due.is(4, "r is 1 at 3, 0: x 2 to 4 of row 0, and row 1", () -> house.proof(3, 0, 1));
        Due.is(2, "r is 1 at 7, 7: x 6 to 7 of row 7, and row 6", () -> house.proof(7, 7, 1));
        Due.is(3, "r is 1 at 0, 7: x 0 to 1 of row 7, and row 6", () -> house.proof(0, 7, 1));
        Due.is(1, "r is 0 at 3, 0", () -> house.proof(3, 0, 0));
        Due.is(1, "r is 0 at 7, 0", () -> house.proof(7, 0, 0));
        house.put(3, 5);
        Due.is(1, "r is 0 at 3, 5", () -> house.proof(3, 5, 0));
    }

    private static void reverse() {
        CurvekeyHouse house = four();
        int[] due = {1, 1, 2, 0};
        for (int point = 0; point < 4; point++) {
            int p = point;
            Due.is(due[p], "reverse(" + p + ")", () -> house.reverse(p));
        }
        house.remove(2);
        Due.is(0, "one that is gone", () -> house.reverse(2));
        Due.is(2, "of the rest", () -> house.reverse(1));
        Due.fails(INDEX, "reverse(4)", house, () -> house.reverse(4));
        Due.fails(INDEX, "reverse(-1)", house, () -> house.reverse(-1));
        CurvekeyHouse alone = new CurvekeyHouse();
        alone.put(1, 1);
        Due.is(0, "alone", () -> alone.reverse(0));
        alone.put(3, 1);
        alone.put(2, 1);
        Due.is(2, "as near: the smaller number has it", () -> alone.reverse(2));
        Due.is(1, "as near: the smaller number", () -> alone.reverse(0));
        Due.is(0, "as near: not the greater one", () -> alone.reverse(1));
    }

    private static void pairsAndExtremes() {
        CurvekeyHouse house = new CurvekeyHouse();
        Due.is(-1, "no pair", () -> house.extreme(true));
        house.put(0, 0);
        Due.is(-1, "one point", () -> house.extreme(false));
        Due.is(0, "no pairs", () -> house.pairs(2000));
        CurvekeyHouse more = four();
        // fars: 0 1: 25, 0 2: 4, 0 3: 98, 1 2: 13, 1 3: 25, 2 3: 74
        int[][] due = {{0, 0}, {3, 0}, {4, 1}, {13, 2}, {24, 2}, {25, 4}, {97, 5}, {98, 6}, {2000, 6}};
        for (int[] d : due) {
            Due.is(d[1], "pairs(" + d[0] + ")", () -> more.pairs(d[0]));
        }
        Due.is(98, "farthest", () -> more.extreme(true));
        Due.is(4, "closest", () -> more.extreme(false));
        more.remove(0);
        Due.is(74, "farthest that lives", () -> more.extreme(true));
        Due.is(13, "closest that lives", () -> more.extreme(false));
        Due.is(2, "pairs that live", () -> more.pairs(25));
        for (int wrong : new int[] {-1, 2001, Integer.MAX_VALUE}) {
            Due.fails(ARGUMENT, "pairs(" + wrong + ")", more, () -> more.pairs(wrong));
        }
    }

    private static void speed() {
        CurvekeyHouse house = four();
        Due.is(3, "speed(0, 3, 0)", () -> house.speed(0, 3, 0));
        Due.is(0, "held to 0", () -> house.speed(0, -3, 3));
        Due.is(7, "held to the side", () -> house.speed(3, 1, 1));
        Due.is(-3, "as told last", () -> house.ofPoint(0, 8));
        Due.is(3, "as told last", () -> house.ofPoint(0, 9));
        Due.is(4, "VERSION stays", () -> house.many(7));
        for (int wrong : new int[] {-4, 4, Integer.MAX_VALUE, Integer.MIN_VALUE}) {
            Due.fails(ARGUMENT, "speed by x " + wrong, house, () -> house.speed(0, wrong, 0));
            Due.fails(ARGUMENT, "speed by y " + wrong, house, () -> house.speed(0, 0, wrong));
        }
        Due.fails(INDEX, "speed(4, ..)", house, () -> house.speed(4, 9, 9));
        Due.fails(INDEX, "speed(-1, ..)", house, () -> house.speed(-1, 0, 0));
        house.remove(0);
        Due.fails(STATE, "one that is gone", house, () -> house.speed(0, 0, 0));
        Due.fails(ARGUMENT, "one that is gone, too fast", house, () -> house.speed(0, 4, 0));
    }

    private static void tick() {
        CurvekeyHouse house = new CurvekeyHouse();
        house.put(0, 0);
        house.put(1, 0);
        house.put(7, 0);
        house.put(4, 4);
        Due.is(0, "nobody has a speed", () -> house.tick(9));
        house.speed(0, 1, 0);
        house.speed(1, 1, 0);
        house.speed(2, 1, 0);
        Due.is(1, "point by point: 0 is barred, 1 goes, 2 is held", () -> house.tick(1));
        Due.is(1, "BARRED", () -> house.many(14));
        Due.is(0, "x of 0", () -> house.ofPoint(0, 0));
        Due.is(2, "x of 1", () -> house.ofPoint(1, 0));
        Due.is(5, "VERSION", () -> house.many(7));
        Due.is(4, "two more ticks", () -> house.tick(2));
        Due.is(2, "x of 0", () -> house.ofPoint(0, 0));
        Due.is(4, "x of 1", () -> house.ofPoint(1, 0));
        Due.is(9, "VERSION", () -> house.many(7));
        Due.is(4, "spells of 1", () -> house.ofPoint(1, 4));
        house.remove(1);
        // 0 goes from x 2 to x 6, where 2 bars it five times more
        Due.is(4, "the dead do not go, nor bar", () -> house.tick(9));
        Due.is(6, "BARRED", () -> house.many(14));
        for (int wrong : new int[] {-1, 0, 10, Integer.MAX_VALUE}) {
            Due.fails(ARGUMENT, "tick(" + wrong + ")", house, () -> house.tick(wrong));
        }
    }

    /** 50 movers in a row, to and fro, each tick 50 spells more. */
    private static void tickLimit() {
        CurvekeyHouse house = new CurvekeyHouse();
        house.found(5, 0, 8);
        for (int n = 0; n < 50; n++) {
            house.put(n % 25, n / 25 * 8);
            house.speed(n, 0, 1);
        }
        Due.is(350, "seven ticks", () -> house.tick(7));
        Due.is(400, "SPELLS", () -> house.many(8));
        Due.is(450, "400 are not more than 400; the sixth to ninth bar none", () -> house.tick(9));
        Due.is(850, "SPELLS", () -> house.many(8));
        Due.fails(STATE, "more than 400", house, () -> house.tick(1));
        Due.fails(ARGUMENT, "both wrong", house, () -> house.tick(10));
        Due.is(850, "asOf VERSION", () -> house.many(7));
        Due.is(50, "all live", () -> house.asOf(0, 0, 32, 32, 850));
        Due.is(31, "a move is free", () -> house.move(0, 31, 0));
    }

    private static void guess() {
        CurvekeyHouse house = new CurvekeyHouse();
        house.found(2, 0, 8);
        Due.is(-1, "a guess without points", () -> house.guess(0, false));
        Due.is(0, "none is smaller", () -> house.guess(15, true));
        house.put(2, 1);
        for (int key : new int[] {0, 6, 15}) {
            Due.is(0, "a guess with one point at " + key, () -> house.guess(key, false));
        }
        house.put(1, 0);
        house.put(2, 0);
        house.put(3, 3);
        // keys 1, 2, 6, 15: the line goes over 14 keys by 3
        int[][] due = {{0, 0, 0}, {1, 0, 0}, {2, 0, 1}, {5, 0, 2}, {6, 1, 2}, {7, 1, 3}, {11, 2, 3}, {14, 2, 3}, {15, 3, 3}};
        for (int[] d : due) {
            Due.is(d[1], "guess(" + d[0] + ", false)", () -> house.guess(d[0], false));
            Due.is(d[2], "guess(" + d[0] + ", true)", () -> house.guess(d[0], true));
        }
        house.remove(1);
        house.remove(3);
        Due.is(1, "held to the last", () -> house.guess(15, false));
        Due.is(0, "held to the first", () -> house.guess(1, false));
        Due.is(1, "only those that live", () -> house.guess(6, true));
        for (int wrong : new int[] {-1, 16, Integer.MAX_VALUE, Integer.MIN_VALUE}) {
            Due.fails(ARGUMENT, "guess(" + wrong + ", true)", house, () -> house.guess(wrong, true));
            Due.fails(ARGUMENT, "guess(" + wrong + ", false)", house, () -> house.guess(wrong, false));
        }
    }

    private static void errorAndPieces() {
        CurvekeyHouse house = new CurvekeyHouse();
        house.found(2, 0, 8);
        Due.is(-1, "error without points", house::error);
        Due.is(0, "pieces without points", () -> house.pieces(0));
        house.put(0, 0);
        Due.is(0, "error of one", house::error);
        Due.is(1, "pieces of one", () -> house.pieces(0));
        house.put(1, 0);
        house.put(2, 0);
        house.put(3, 3);
        Due.is(2, "error", house::error);
        Due.is(2, "pieces(0): 0 1 2, 15", () -> house.pieces(0));
        Due.is(2, "pieces(1)", () -> house.pieces(1));
        Due.is(1, "pieces(2)", () -> house.pieces(2));
        Due.is(1, "pieces(80)", () -> house.pieces(80));
        for (int wrong : new int[] {-1, 81, Integer.MAX_VALUE}) {
            Due.fails(ARGUMENT, "pieces(" + wrong + ")", house, () -> house.pieces(wrong));
        }
        eachShorterLineToo();
    }

    /** A longer line may fit again where a shorter one does not: it is not to be reached. */
    private static void eachShorterLineToo() {
        CurvekeyHouse house = new CurvekeyHouse();
        house.found(2, 0, 8);
        int[] keys = {0, 2, 5, 6};
        for (int key : keys) {
            house.put(key % 4, key / 4);
        }
        // 0 to 5 guesses 0 of 2, which is 1; 0 to 6 guesses 1 of 2 and 2 of 5
        Due.is(0, "error of all", house::error);
        Due.is(2, "pieces(0): 0 2, 5 6", () -> house.pieces(0));
        Due.is(1, "pieces(1)", () -> house.pieces(1));
        house.put(0, 3);
        house.put(2, 3);
        Due.is(3, "pieces(0): 0 2, 5 6, 12 14", () -> house.pieces(0));
        house.remove(5);
        Due.is(1, "the error of 0 2 5 6 12, asked first", house::error);
    }
}
