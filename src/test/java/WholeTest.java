/** Promises 42 to 45: all of it. */
public final class WholeTest {
    private static final Class<?> ARGUMENT = IllegalArgumentException.class;

    public static void main(String[] args) {
        row();
        isSound();
        knock();
        digest();
        Due.end();
    }

    private static void row() {
        CurvekeyHouse house = new CurvekeyHouse();
        house.found(4, 3, 4);
        for (int n = 0; n < 14; n++) {
            house.put(n, 2);
        }
        house.remove(3);
        house.move(12, 15, 2);
        house.move(13, 0, 15);
        Due.text("012.4567" + "8901...2", "row(2)", house.row(2));
        Due.text("3...............", "row(15)", house.row(15));
        Due.text("................", "row(0)", house.row(0));
        for (int wrong : new int[] {-1, 16, Integer.MAX_VALUE, Integer.MIN_VALUE}) {
            Due.fails(ARGUMENT, "row(" + wrong + ")", house, () -> house.row(wrong).length());
        }
        house.found(1, 0, 2);
        Due.text("..", "row of the smallest", house.row(1));
    }

    private static void isSound() {
        CurvekeyHouse house = new CurvekeyHouse();
        Due.yes("a new one is sound", house.isSound());
        house.found(3, 3, 2);
        house.put(0, 0);
        Due.yes("sound with one at the key 0", house.isSound());
        for (int seed = 0; seed < 40; seed++) {
            house.bulk(2, seed);
            int last = house.many(3) - 1;
            if (seed % 3 == 0 && house.ofPoint(last, 3) == 1) {
                house.remove(last);
            }
            if (seed % 5 == 0) {
                house.sweep();
            }
            Due.yes("sound behind seed " + seed, house.isSound());
        }
    }

    private static void knock() {
        CurvekeyHouse house = new CurvekeyHouse();
        for (int times = 1; times <= 3; times++) {
            Due.is(times, "knock " + times, house::knock);
        }
        house.found(2, 2, 2);
        Due.is(4, "behind a found", house::knock);
        Due.is(1, "of another house", () -> new CurvekeyHouse().knock());
    }

    private static void digest() {
        Due.is(ByHand.digest(CurvekeyHouse::new), "digest of a new one", () -> new CurvekeyHouse().digest());
        Due.is(ByHand.digest(WholeTest::worked), "digest", () -> worked().digest());
        CurvekeyHouse twice = worked();
        Due.is(twice.digest(), "digest again: it changes nothing", twice::digest);
        CurvekeyHouse swept = worked();
        swept.sweep();
        Due.is(ByHand.digest(() -> {
            CurvekeyHouse another = worked();
            another.sweep();
            return another;
        }), "digest behind a sweep", swept::digest);
        CurvekeyHouse house = worked();
        house.found(5, 1, 2);
        Due.is(ByHand.digest(() -> Stores.empty(5, 1, 2)), "digest behind a found", house::digest);
        long before = house.digest();
        house.knock();
        Due.is(before, "a knock is not in it", house::digest);
        house.search(0, 0, 1, 1, 1);
        Due.yes("a search is in it", house.digest() != before);
        CurvekeyHouse one = new CurvekeyHouse();
        CurvekeyHouse other = new CurvekeyHouse();
        for (int seed = 0; seed < 20; seed++) {
            one.bulk(2, seed);
            other.bulk(2, seed);
            other.error();
            Due.is(one.digest(), "digest of a twin of whom more was asked", other::digest);
        }
    }

    private static CurvekeyHouse worked() {
        CurvekeyHouse house = new CurvekeyHouse();
        house.bulk(30, 4);
        house.speed(2, 1, -1);
        house.tick(3);
        house.remove(5);
        house.share(3);
        house.draw(2, 3);
        house.search(1, 1, 4, 4, 2);
        return house;
    }
}
