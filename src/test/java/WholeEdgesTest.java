/** The edges of what is asked of all: promises 42 to 45, and what holds for every call. */
public final class WholeEdgesTest {
    private static final Class<?> ARGUMENT = IllegalArgumentException.class;
    private static final Class<?> STATE = IllegalStateException.class;
    private static final Class<?> INDEX = IndexOutOfBoundsException.class;

    public static void main(String[] args) {
        refusedChangesNothing();
        firstNamedIsThrown();
        askedChangesNothing();
        rowReturns();
        rowRefused();
        sound();
        knocks();
        digestWraps();
        digestOfEach();
        Due.end();
    }

    private static void refusedChangesNothing() {
        Due.says(0, "A method that throws an exception changes nothing.");
        for (Picture.Store store : stores()) {
            Due.refuses(ARGUMENT, "design", store, h -> h.design(0, 0, 0, 0));
            Due.refuses(ARGUMENT, "found", store, h -> h.found(5, 5, 9));
            Due.refuses(ARGUMENT, "found", store, h -> h.found(5, 6, 2));
            Due.refuses(ARGUMENT, "found", store, h -> h.found(6, 2, 2));
            Due.refuses(ARGUMENT, "put", store, h -> h.put(0, 32));
            Due.refuses(ARGUMENT, "bulk", store, h -> h.bulk(40, 100));
            Due.refuses(ARGUMENT, "bulk", store, h -> h.bulk(41, 99));
            Due.refuses(INDEX, "move", store, h -> h.move(80, 0, 0));
            Due.refuses(INDEX, "remove", store, h -> h.remove(80));
            Due.refuses(ARGUMENT, "search", store, h -> h.search(0, 0, 1, 1, 100));
            Due.refuses(ARGUMENT, "search", store, h -> h.search(0, 0, 33, 1, 1));
            Due.refuses(INDEX, "speed", store, h -> h.speed(80, 1, 1));
            Due.refuses(ARGUMENT, "tick", store, h -> h.tick(10));
            Due.refuses(ARGUMENT, "share", store, h -> h.share(5));
            Due.refuses(ARGUMENT, "draw", store, h -> h.draw(0, 1));
        }
        for (Picture.Store store : new Picture.Store[] {Stores::busy, Stores::oneGone}) {
            Due.refuses(STATE, "remove", store, h -> h.remove(1));
            Due.refuses(STATE, "move", store, h -> h.move(1, 0, 3));
            Due.refuses(ARGUMENT, "move", store, h -> h.move(0, 8, 3));
            Due.refuses(STATE, "speed", store, h -> h.speed(1, 1, 1));
            Due.refuses(ARGUMENT, "speed", store, h -> h.speed(0, 4, 1));
        }
        Due.refuses(STATE, "design", Stores::busy, h -> h.design(0, 8, 16, 24));
        Due.refuses(STATE, "put", Stores::full, h -> h.put(15, 15));
        Due.refuses(STATE, "put", Stores::crowded, h -> h.put(1, 1));
        Due.refuses(STATE, "draw", Stores::drawn, h -> h.draw(1, 3));
    }

    private static Picture.Store[] stores() {
        return new Picture.Store[] {CurvekeyHouse::new, Stores::busy, Stores::full, Stores::crowded, Stores::drawn,
            Stores::oneGone};
    }

    private static void firstNamedIsThrown() {
        Due.says(0, "If several exceptions apply, the one that is named first is thrown.");
        Due.refuses(ARGUMENT, "design: a wrong code, a point was put", Stores::busy, h -> h.design(32, 8, 16, 0));
        Due.refuses(ARGUMENT, "put: no place, 80 points", Stores::full, h -> h.put(16, 0));
        Due.refuses(INDEX, "move: no point, no place", Stores::busy, h -> h.move(11, 8, 0));
        Due.refuses(INDEX, "move: no point, one lives there", Stores::busy, h -> h.move(11, 7, 7));
        Due.refuses(ARGUMENT, "move: no place, it is gone", Stores::busy, h -> h.move(1, 0, 8));
        Due.refuses(INDEX, "ofPoint: no point, no such thing", Stores::busy, h -> h.ofPoint(11, 10));
        Due.refuses(INDEX, "ofPage: no page, no such thing", Stores::busy, h -> h.ofPage(6, 6));
        Due.refuses(INDEX, "speed: no point, too fast", Stores::busy, h -> h.speed(11, 4, 4));
        Due.refuses(ARGUMENT, "speed: too fast, it is gone", Stores::busy, h -> h.speed(1, -4, 0));
        Due.refuses(ARGUMENT, "tick: too many, 410 spells", WholeEdgesTest::manySpells, h -> h.tick(10));
        Due.refuses(INDEX, "ofMachine: no machine, no such thing", Stores::busy, h -> h.ofMachine(3, 3));
        Due.refuses(INDEX, "blur: no point, for 0", Stores::busy, h -> h.blur(11, 0));
        Due.refuses(ARGUMENT, "blur: for 81, it is gone", Stores::busy, h -> h.blur(1, 81));
        Due.refuses(ARGUMENT, "draw: no cell, 20 are drawn", Stores::drawn, h -> h.draw(2, 16));
    }

    /** 10 spells by put, 400 by ticks. */
    private static CurvekeyHouse manySpells() {
        CurvekeyHouse house = Stores.empty(5, 0, 8);
        for (int number = 0; number < 10; number++) {
            house.put(number, 0);
            house.speed(number, 0, 1);
        }
        for (int back = 0; back < 10; back++) {
            house.tick(4);
            for (int number = 0; number < 10; number++) {
                house.speed(number, 0, back % 2 == 0 ? -1 : 1);
            }
        }
        return house;
    }

    private static void askedChangesNothing() {
        Due.says(0, "What is asked changes nothing, but SEARCHES.");
        Due.is(410, "SPELLS", () -> manySpells().many(8));
        for (Picture.Store store : stores()) {
            Due.changesNothing("key", store, h -> h.key(5, 1, 1));
            Due.changesNothing("place", store, h -> h.place(5, 3, true));
            Due.changesNothing("ofCurve", store, h -> h.ofCurve(5, 2));
            Due.changesNothing("runs", store, h -> h.runs(4, 0, 0, 2, 2));
            Due.changesNothing("allRuns", store, h -> h.allRuns(4, 2, 1));
            Due.changesNothing("best", store, h -> h.best(2, 1, true));
            Due.changesNothing("best", store, h -> h.best(2, 1, false));
            Due.changesNothing("ofPoint", store, h -> h.ofPoint(0, 7));
            Due.changesNothing("ofPage", store, h -> h.ofPage(0, 4));
            Due.changesNothing("many", store, h -> h.many(13));
            Due.changesNothing("cut", store, h -> h.cut(0, 0, 2, 2, 1, 2));
            Due.changesNothing("asOf", store, h -> h.asOf(0, 0, 2, 2, 0));
            Due.changesNothing("soon", store, h -> h.soon(0, 0, 2, 2, 40));
            Due.changesNothing("nearest", store, h -> h.nearest(1, 1, 1));
            Due.changesNothing("proof", store, h -> h.proof(1, 1, 1));
            Due.changesNothing("reverse", store, h -> h.reverse(0));
            Due.changesNothing("pairs", store, h -> h.pairs(2000));
            Due.changesNothing("extreme", store, h -> h.extreme(true));
            Due.changesNothing("guess", store, h -> h.guess(3, false));
            Due.changesNothing("error", store, CurvekeyHouse::error);
            Due.changesNothing("pieces", store, h -> h.pieces(0));
            Due.changesNothing("ofMachine", store, h -> h.ofMachine(0, 2));
            Due.changesNothing("skew", store, CurvekeyHouse::skew);
            Due.changesNothing("density", store, h -> h.density(1, 3));
            Due.changesNothing("fullest", store, h -> h.fullest(1, true));
            Due.changesNothing("blur", store, h -> h.blur(0, 2));
            Due.changesNothing("tile", store, h -> h.tile(0, 0, true));
            Due.changesNothing("rival", store, h -> h.rival(1));
            Due.changesNothing("rivalReads", store, h -> h.rivalReads(0, 0, 2, 2));
            Due.changesNothing("row", store, h -> h.row(1).length());
            Due.changesNothing("isSound", store, h -> h.isSound() ? 1 : 0);
            Due.changesNothing("digest", store, CurvekeyHouse::digest);
        }
    }

    private static void rowReturns() {
        Due.says(42, "Returns its PLACES from x 0 on: \".\" without a POINT, otherwise the last digit of the number of the "
            + "POINT that LIVES there.");
        Due.text("........", "without points", new CurvekeyHouse().row(7));
        Due.text("..", "the least plane", Stores.empty(1, 3, 2).row(0));
        Due.is(32, "signs of the greatest plane", () -> Stores.empty(5, 3, 2).row(31).length());
        Due.text("0123456789012345", "0 to 15", Stores.full().row(0));
        Due.text("6789012345678901", "16 to 31", Stores.full().row(1));
        Due.text("4567890123456789", "64 to 79", Stores.full().row(4));
        Due.text("................", "above them", Stores.full().row(5));
        Due.text("01", "a full plane", Stores.crowded().row(0));
        Due.text("23", "its last row", Stores.crowded().row(1));
        Due.text("0.2.", "one is gone", Stores.oneGone().row(0));
        Due.text("...1", "one moved", Stores.oneMoved().row(3));
        CurvekeyHouse house = Stores.oneGone();
        house.put(1, 0);
        Due.text("032.", "another one where one is gone", house.row(0));
    }

    private static void rowRefused() {
        Due.says(42, "Throws `IllegalArgumentException` if y is not 0 to SIDE - 1");
        Due.ranges(0, 7, ARGUMENT, "row", Stores::busy, (h, y) -> h.row(y).length());
        Due.ranges(0, 1, ARGUMENT, "row", Stores::crowded, (h, y) -> h.row(y).length());
        Due.ranges(0, 31, ARGUMENT, "row", () -> Stores.empty(5, 1, 2), (h, y) -> h.row(y).length());
    }

    private static void sound() {
        Due.says(43, "Returns whether all is SOUND: ENTRIES of each PAGE are CAPACITY or fewer, have rising KEYS from its "
            + "FLOOR up to ahead of the next FLOOR, FLOORS rise from 0; POINTS that LIVE are all ENTRIES that are no "
            + "TOMBS, each once; as many POINTS LIVE AS OF VERSION as now.");
        for (Picture.Store store : stores()) {
            CurvekeyHouse house = store.build();
            Due.yes("sound", house.isSound());
            house.sweep();
            Due.yes("sound behind a sweep", house.isSound());
            for (int point = 0; point < house.many(3); point++) {
                if (house.ofPoint(point, 3) == 1) {
                    house.remove(point);
                }
            }
            Due.yes("sound when all are gone", house.isSound());
            house.sweep();
            Due.yes("sound without any entry", house.isSound());
            house.found(5, 4, 2);
            Due.yes("sound as it is founded anew", house.isSound());
            house.bulk(40, 9);
            Due.yes("sound behind a bulk", house.isSound());
        }
        Due.yes("sound behind many ticks", manySpells().isSound());
    }

    private static void knocks() {
        Due.says(44, "Knocks at the house: nobody holds the LATCH of it, and who knocks is REFUSED (counted).");
        CurvekeyHouse house = new CurvekeyHouse();
        long before = house.digest();
        Due.is(1, "the first", house::knock);
        Due.is(2, "the second", house::knock);
        Due.is(before, "nothing else is changed", house::digest);
        Due.says(44, "Returns how many were REFUSED ever, with this.");
        house.found(1, 0, 2);
        Due.is(3, "a store founded anew keeps it", house::knock);
        Due.is(1, "another house has its own", () -> new CurvekeyHouse().knock());
        Picture.thrownBy(house, h -> h.put(9, 9));
        Picture.thrownBy(house, h -> h.remove(0));
        Due.is(4, "calls that throw are not counted", house::knock);
        for (int time = 5; time <= 500; time++) {
            int t = time;
            Due.is(t, "knock", house::knock);
        }
    }

    private static CurvekeyHouse someTicks(int times) {
        CurvekeyHouse house = new CurvekeyHouse();
        for (int time = 0; time < times; time++) {
            house.put(time % 8, 0);
            house.speed(time, -1, 1);
            house.tick(1);
        }
        return house;
    }

    private static void digestWraps() {
        Due.says(45, "A number d starts with 58283; for each of the following numbers v, d becomes d * 31 + v, "
            + "which wraps around as a 64-bit integer");
        for (int times = 0; times < 12; times++) {
            int t = times;
            Due.is(ByHand.digest(() -> someTicks(t)), "of a bit more each time", () -> someTicks(t).digest());
        }
    }

    private static void digestOfEach() {
        Due.says(45, "many() of 0 to 15; CURVE by CURVE ofCurve() of 0 to 3; POINT by POINT ofPoint() of 0 to 9; "
            + "PAGE by PAGE ofPage() of 0 to 5; extreme() of both (farthest first); error(); pieces() of 1; "
            + "MACHINE by MACHINE ofMachine() of 0 to 2; skew(); rival() of 0 to 2; 1 if isSound(), otherwise 0.");
        for (Picture.Store store : stores()) {
            long want = ByHand.digest(store);
            CurvekeyHouse house = store.build();
            Due.is(want, "digest", house::digest);
            Due.is(want, "again", house::digest);
            house.sweep();
            Due.is(ByHand.digest(() -> swept(store)), "behind a sweep", house::digest);
        }
        Due.is(ByHand.digest(Stores::oneMoved), "where one moved", () -> Stores.oneMoved().digest());
    }

    private static CurvekeyHouse swept(Picture.Store store) {
        CurvekeyHouse house = store.build();
        house.sweep();
        return house;
    }
}
