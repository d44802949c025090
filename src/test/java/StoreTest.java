/** Promises 9 to 17: the store, its points and pages. */
public final class StoreTest {
    private static final Class<?> ARGUMENT = IllegalArgumentException.class;
    private static final Class<?> STATE = IllegalStateException.class;
    private static final Class<?> INDEX = IndexOutOfBoundsException.class;

    public static void main(String[] args) {
        found();
        put();
        putAtMost();
        bulk();
        move();
        remove();
        split();
        sweep();
        ofPoint();
        ofPage();
        many();
        Due.end();
    }

    private static CurvekeyHouse rows(int order, int capacity) {
        CurvekeyHouse house = new CurvekeyHouse();
        house.found(order, 0, capacity);
        return house;
    }

    private static void found() {
        CurvekeyHouse house = new CurvekeyHouse();
        house.bulk(20, 3);
        house.speed(0, 1, 1);
        house.tick(2);
        house.remove(0);
        house.draw(1, 1);
        house.search(0, 0, 2, 2, 1);
        house.share(3);
        house.knock();
        Due.is(256, "found(4, 2, 5)", () -> house.found(4, 2, 5));
        int[] want = {4, 2, 5, 0, 0, 1, 0, 0, 0, 0, 0, 1, 0, 0, 0, 0};
        for (int what = 0; what < want.length; what++) {
            int each = what;
            Due.is(want[what], "founded many(" + what + ")", () -> house.many(each));
        }
        Due.is(-1, "no tile", () -> house.tile(1, 1, true));
        Due.is(2, "REFUSED stays", house::knock);
        Due.is(0, "no spells", () -> house.asOf(0, 0, 16, 16, 0));
        Due.is(0, "no point in any cell", () -> house.density(0, 0));
        house.put(5, 5);
        Due.is(1, "one spell", () -> house.ofPoint(0, 4));
        Due.is(1, "one point as of now", () -> house.asOf(0, 0, 16, 16, 1));
        Due.is(0, "a new point has no speed", () -> house.ofPoint(0, 8));
        Due.is(-1, "a new point is not gone", () -> house.ofPoint(0, 6));
        house.remove(0);
        Due.is(0, "no spells from ahead of it", () -> house.asOf(0, 0, 16, 16, 2));
        for (int order = 1; order <= 5; order++) {
            int o = order;
            Due.is(1L << (2 * order), "found of order " + order, () -> house.found(o, 0, 2));
        }
        int[][] wrong = {{0, 0, 2}, {6, 0, 2}, {1, -1, 2}, {1, 6, 2}, {1, 0, 1}, {1, 0, 9},
            {Integer.MIN_VALUE, 0, 2}, {Integer.MAX_VALUE, 0, 2}, {3, Integer.MAX_VALUE, 4}, {3, 3, Integer.MIN_VALUE}};
        house.put(31, 31);
        for (int[] w : wrong) {
            Due.fails(ARGUMENT, "found of wrong", house, () -> house.found(w[0], w[1], w[2]));
        }
        Due.is(1, "the store stays", () -> house.many(4));
    }

    private static void put() {
        CurvekeyHouse house = rows(2, 4);
        Due.is(0, "put(3, 0)", () -> house.put(3, 0));
        Due.is(1, "put(0, 0)", () -> house.put(0, 0));
        Due.is(2, "VERSION", () -> house.many(7));
        Due.is(2, "SPELLS", () -> house.many(8));
        Due.fails(STATE, "put where one lives", house, () -> house.put(3, 0));
        Due.fails(ARGUMENT, "put(4, 0)", house, () -> house.put(4, 0));
        Due.fails(ARGUMENT, "put(0, -1)", house, () -> house.put(0, -1));
        Due.fails(ARGUMENT, "put(-1, 0)", house, () -> house.put(-1, 0));
        Due.fails(ARGUMENT, "put(0, MAX)", house, () -> house.put(0, Integer.MAX_VALUE));
        house.remove(0);
        Due.is(2, "put where one lived", () -> house.put(3, 0));
    }

    private static void putAtMost() {
        CurvekeyHouse house = rows(4, 8);
        for (int number = 0; number < 79; number++) {
            int n = number;
            Due.is(n, "put " + n, () -> house.put(n % 16, n / 16));
        }
        Due.is(1, "bulk up to the 80th", () -> house.bulk(40, 5));
        Due.is(0, "bulk behind the 80th", () -> house.bulk(40, 6));
        Due.is(80, "POINTS ever", () -> house.many(3));
        Due.fails(STATE, "an 81st", house, () -> house.put(15, 15));
        Due.fails(ARGUMENT, "an 81st outside", house, () -> house.put(16, 15));
        house.remove(0);
        Due.fails(STATE, "an 81st, though one is gone", house, () -> house.put(0, 0));
    }

    private static void bulk() {
        CurvekeyHouse house = rows(2, 2);
        Due.is(6, "bulk(6, 1)", () -> house.bulk(6, 1));
        // the row of 1: 48, 92, 25, 32, 65, 43, 20, 73, 0, 11, 79, 109: modulo 4 these places
        int[] due = {0, 0, 1, 0, 1, 3, 0, 1, 0, 3, 3, 1};
        for (int i = 0; i < 6; i++) {
            int n = i;
            Due.is(due[2 * n], "x of bulk's " + n, () -> house.ofPoint(n, 0));
            Due.is(due[2 * n + 1], "y of bulk's " + n, () -> house.ofPoint(n, 1));
        }
        Due.is(6, "VERSION", () -> house.many(7));
        Due.is(0, "the same places again", () -> house.bulk(6, 1));
        Due.is(6, "VERSION stays", () -> house.many(7));
        for (int wrong : new int[] {-1, 0, 41, Integer.MAX_VALUE}) {
            Due.fails(ARGUMENT, "bulk of many " + wrong, house, () -> house.bulk(wrong, 1));
        }
        for (int wrong : new int[] {-1, 100, Integer.MIN_VALUE}) {
            Due.fails(ARGUMENT, "bulk of seed " + wrong, house, () -> house.bulk(1, wrong));
        }
        Due.is(0, "the least", () -> house.bulk(1, 1));
        for (int many = 1; many <= 9; many++) {
            int m = many;
            house.found(5, 0, 2);
            Due.is(m, "so many times", () -> house.bulk(m, 1));
        }
        house.found(2, 0, 2);
        house.bulk(40, 99);
        house.bulk(40, 0);
        Due.is(16, "a plane is full", () -> house.many(4));
    }

    private static void move() {
        CurvekeyHouse house = rows(2, 4);
        house.put(0, 0);
        house.put(1, 0);
        Due.is(12, "move(0, 0, 3)", () -> house.move(0, 0, 3));
        Due.is(3, "VERSION", () -> house.many(7));
        Due.is(1, "a tomb", () -> house.many(6));
        Due.is(12, "move to its own place", () -> house.move(0, 0, 3));
        Due.is(3, "VERSION stays", () -> house.many(7));
        Due.is(3, "SPELLS stay", () -> house.many(8));
        Due.is(0, "move back", () -> house.move(0, 0, 0));
        Due.is(1, "a tomb filled, a tomb more", () -> house.many(6));
        Due.fails(STATE, "move to another one", house, () -> house.move(0, 1, 0));
        Due.fails(ARGUMENT, "move outside", house, () -> house.move(0, 4, 0));
        Due.fails(ARGUMENT, "move to -1", house, () -> house.move(0, 0, -1));
        Due.fails(INDEX, "no such point", house, () -> house.move(2, 9, 9));
        Due.fails(INDEX, "point -1", house, () -> house.move(-1, 0, 0));
        Due.fails(INDEX, "point MAX", house, () -> house.move(Integer.MAX_VALUE, 0, 0));
        house.remove(0);
        Due.fails(STATE, "move one that is gone", house, () -> house.move(0, 3, 3));
        Due.fails(STATE, "move one that is gone to where it was", house, () -> house.move(0, 0, 0));
        Due.fails(ARGUMENT, "move one that is gone outside", house, () -> house.move(0, 4, 4));
    }

    private static void remove() {
        CurvekeyHouse house = rows(2, 4);
        house.put(0, 0);
        house.put(1, 0);
        Due.is(3, "remove(1)", () -> house.remove(1));
        Due.is(1, "POINTS that LIVE", () -> house.many(4));
        Due.is(2, "POINTS ever", () -> house.many(3));
        Due.is(1, "TOMBS", () -> house.many(6));
        Due.fails(STATE, "remove again", house, () -> house.remove(1));
        Due.fails(INDEX, "remove(2)", house, () -> house.remove(2));
        Due.fails(INDEX, "remove(-1)", house, () -> house.remove(-1));
        Due.fails(INDEX, "remove(MIN)", house, () -> house.remove(Integer.MIN_VALUE));
        Due.is(4, "remove(0)", () -> house.remove(0));
    }

    private static void split() {
        CurvekeyHouse house = rows(2, 2);
        house.put(0, 0);
        house.put(1, 0);
        house.put(2, 0);
        // three entries: one stays, two go
        Due.is(2, "PAGES", () -> house.many(5));
        Due.is(1, "SPLITS", () -> house.many(15));
        Due.is(1, "entries of the first", () -> house.ofPage(0, 1));
        Due.is(2, "entries of the second", () -> house.ofPage(1, 1));
        Due.is(1, "floor of the second", () -> house.ofPage(1, 0));
        house.remove(1);
        house.put(3, 3);
        Due.is(3, "a tomb counts as it splits", () -> house.many(5));
        house.put(1, 0);
        Due.is(3, "a tomb's place is taken without a split", () -> house.many(5));
        Due.is(0, "TOMBS", () -> house.many(6));

        CurvekeyHouse wide = rows(3, 8);
        for (int x = 0; x < 8; x++) {
            wide.put(x, 0);
        }
        Due.is(1, "as many as can be", () -> wide.many(5));
        wide.put(0, 7);
        Due.is(4, "the first half, rounded down", () -> wide.ofPage(0, 1));
        Due.is(5, "the others", () -> wide.ofPage(1, 1));
        Due.is(4, "floor behind", () -> wide.ofPage(1, 0));
    }

    private static void sweep() {
        CurvekeyHouse house = rows(3, 4);
        for (int x = 0; x < 8; x++) {
            house.put(x, 0);
        }
        // pages 0 1, 2 3, 4 5 6 7
        Due.is(3, "PAGES", () -> house.many(5));
        Due.is(0, "a sweep without tombs", house::sweep);
        Due.is(3, "PAGES", () -> house.many(5));
        house.remove(1);
        house.remove(2);
        Due.is(2, "two tombs go", house::sweep);
        Due.is(2, "the first two become one", () -> house.many(5));
        Due.is(0, "with the floor of the first", () -> house.ofPage(0, 0));
        Due.is(2, "with what both have", () -> house.ofPage(0, 1));
        Due.is(4, "the next floor", () -> house.ofPage(1, 0));
        for (int p = 3; p < 8; p++) {
            house.remove(p);
        }
        Due.is(5, "five tombs go", house::sweep);
        Due.is(1, "one page", () -> house.many(5));
        Due.is(1, "with one entry", () -> house.ofPage(0, 1));
        house.remove(0);
        Due.is(1, "the last tomb goes", house::sweep);
        Due.is(-1, "no first entry", () -> house.ofPage(0, 3));
        Due.is(-1, "no last entry", () -> house.ofPage(0, 4));
        Due.is(2, "SPLITS stay", () -> house.many(15));

        CurvekeyHouse later = rows(3, 4);
        for (int key = 0; key < 12; key++) {
            later.put(key % 8, key / 8);
        }
        // pages 0 1, 2 3, 4 5, 6 7, 8 9 10 11
        Due.is(5, "PAGES", () -> later.many(5));
        later.remove(1);
        later.remove(5);
        later.remove(6);
        Due.is(3, "three tombs go", later::sweep);
        Due.is(4, "a later pair becomes one: 4 and 7", () -> later.many(5));
        Due.is(2, "1 and 2 stay apart", () -> later.ofPage(1, 0));
        Due.is(4, "the joined one's floor", () -> later.ofPage(2, 0));
        Due.is(7, "the joined one's last key", () -> later.ofPage(2, 4));
        Due.is(8, "the last floor", () -> later.ofPage(3, 0));

        CurvekeyHouse odd = rows(2, 3);
        for (int x = 0; x < 4; x++) {
            odd.put(x, 0);
        }
        odd.remove(0);
        odd.remove(2);
        odd.sweep();
        Due.is(2, "half of 3 is 1: two stay apart", () -> odd.many(5));
        odd.remove(1);
        odd.sweep();
        Due.is(1, "one entry joins", () -> odd.many(5));
    }

    private static void ofPoint() {
        CurvekeyHouse house = rows(2, 2);
        house.put(1, 2);
        house.put(0, 0);
        house.put(3, 3);
        house.speed(0, -2, 3);
        house.move(0, 2, 2);
        // its tomb stays in the page 1, the other page splits off
        int[] want = {2, 2, 10, 1, 2, 1, -1, 2, -2, 3};
        for (int what = 0; what < want.length; what++) {
            int w = what;
            Due.is(want[what], "ofPoint(0, " + what + ")", () -> house.ofPoint(0, w));
        }
        house.remove(0);
        int[] gone = {2, 2, 10, 0, 2, 1, 5, -1, -2, 3};
        for (int what = 0; what < gone.length; what++) {
            int w = what;
            Due.is(gone[what], "gone ofPoint(0, " + what + ")", () -> house.ofPoint(0, w));
        }
        Due.is(2, "begin of the second", () -> house.ofPoint(1, 5));
        Due.fails(INDEX, "ofPoint(3, 0)", house, () -> house.ofPoint(3, 0));
        Due.fails(INDEX, "ofPoint(-1, 0)", house, () -> house.ofPoint(-1, 0));
        Due.fails(INDEX, "both wrong", house, () -> house.ofPoint(3, 10));
        for (int wrong : new int[] {-1, 10, Integer.MAX_VALUE, Integer.MIN_VALUE}) {
            Due.fails(ARGUMENT, "ofPoint(0, " + wrong + ")", house, () -> house.ofPoint(0, wrong));
        }
    }

    private static void ofPage() {
        CurvekeyHouse house = rows(2, 2);
        int[] empty = {0, 0, 0, -1, -1, 0};
        for (int what = 0; what < empty.length; what++) {
            int w = what;
            Due.is(empty[what], "empty ofPage(0, " + what + ")", () -> house.ofPage(0, w));
        }
        house.put(1, 0);
        house.put(3, 0);
        house.put(2, 1);
        house.remove(2);
        house.share(2);
        int[][] want = {{0, 1, 0, 1, 1, 0}, {3, 2, 1, 3, 6, 1}};
        for (int page = 0; page < 2; page++) {
            for (int what = 0; what < 6; what++) {
                int p = page;
                int w = what;
                Due.is(want[p][w], "ofPage(" + p + ", " + w + ")", () -> house.ofPage(p, w));
            }
        }
        Due.fails(INDEX, "ofPage(2, 0)", house, () -> house.ofPage(2, 0));
        Due.fails(INDEX, "ofPage(-1, 0)", house, () -> house.ofPage(-1, 0));
        Due.fails(INDEX, "both wrong", house, () -> house.ofPage(2, 6));
        Due.fails(ARGUMENT, "ofPage(0, 6)", house, () -> house.ofPage(0, 6));
        Due.fails(ARGUMENT, "ofPage(0, -1)", house, () -> house.ofPage(0, -1));
    }

    private static void many() {
        CurvekeyHouse house = rows(2, 2);
        house.put(0, 0);
        house.put(1, 0);
        house.put(2, 0);
        house.remove(2);
        house.speed(0, 1, 0);
        house.tick(1);
        house.draw(2, 5);
        house.draw(1, 0);
        house.move(1, 0, 1);
        house.search(0, 0, 4, 1, 9);
        house.search(0, 0, 1, 1, 9);
        house.share(4);
        int[] want = {2, 0, 2, 3, 2, 3, 2, 5, 4, 4, 2, 4, 2, 1, 1, 2};
        for (int what = 0; what < want.length; what++) {
            int w = what;
            Due.is(want[what], "many(" + what + ")", () -> house.many(w));
        }
        for (int wrong : new int[] {-1, 16, Integer.MAX_VALUE, Integer.MIN_VALUE}) {
            Due.fails(ARGUMENT, "many(" + wrong + ")", house, () -> house.many(wrong));
        }
    }
}
