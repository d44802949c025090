/** Promise 43 where no call can lead: what is held inside is broken by reflection, so this test names private fields. */
public final class InsideTest {
    public static void main(String[] args) throws ReflectiveOperationException {
        broken();
        floorsThatDoNotRise();
        tooManyEntries();
        Due.end();
    }

    /** Breaks what is held inside, as no call can, and asks whether it is seen. */
    private static void broken() throws ReflectiveOperationException {
        String[][] breaks = {{"pages", "floors", "0", "1"}, {"pages", "floors", "1", "0"}, {"pages", "floors", "2", "0"},
            {"pages", "holds", "0", "-1"}, {"pages", "holds", "0", "-2"}, {"pages", "holds", "0", "3"},
            {"pages", "holds", "9", "0"}, {"pages", "holds", "0", "1"}, {"points", "xs", "0", "5"},
            {"points", "alive", "0", "0"}, {"history", "ends", "1", "2"}, {"history", "begins", "1", "9"}};
        for (String[] b : breaks) {
            CurvekeyHouse house = store();
            Due.yes("sound ahead of it", house.isSound());
            long before = house.digest();
            breakIt(house, b);
            Due.yes("not sound with " + String.join(" ", b), !house.isSound());
            Due.yes("another digest with " + String.join(" ", b), house.digest() != before);
            Due.is(ByHand.digest(() -> brokenStore(b)), "the digest of what is not sound", house::digest);
        }
    }

    private static CurvekeyHouse brokenStore(String[] how) {
        CurvekeyHouse house = store();
        try {
            breakIt(house, how);
        } catch (ReflectiveOperationException thrown) {
            throw new IllegalStateException(thrown);
        }
        return house;
    }

    private static void breakIt(CurvekeyHouse house, String[] how) throws ReflectiveOperationException {
        numbers(house, how[0], how[1])[Integer.parseInt(how[2])] = Integer.parseInt(how[3]);
    }

    private static void floorsThatDoNotRise() throws ReflectiveOperationException {
        CurvekeyHouse low = new CurvekeyHouse();
        low.found(4, 0, 8);
        for (int key = 0; key < 9; key++) {
            low.put(key, 0);
        }
        low.remove(5);
        low.sweep();
        Due.is(2, "pages of 4 and 4", () -> low.many(5));
        numbers(low, "pages", "floors")[1] = 0;
        Due.yes("floors that do not rise", !low.isSound());
    }

    private static void tooManyEntries() throws ReflectiveOperationException {
        CurvekeyHouse full = store();
        int[] holds = numbers(full, "pages", "holds");
        holds[16] = -2;
        Due.yes("an entry at the end", full.isSound());
        holds[17] = -2;
        Due.yes("too many entries", !full.isSound());
    }

    /** Keys 0, 1, 2 and 15, in pages of 0, 1, and 2 and 15. */
    private static CurvekeyHouse store() {
        CurvekeyHouse house = new CurvekeyHouse();
        house.found(3, 0, 3);
        house.put(0, 0);
        house.put(1, 0);
        house.put(2, 0);
        house.put(7, 1);
        return house;
    }

    private static int[] numbers(CurvekeyHouse house, String part, String row) throws ReflectiveOperationException {
        return (int[]) inside(inside(inside(house, part), row), "numbers");
    }

    private static Object inside(Object object, String name) throws ReflectiveOperationException {
        java.lang.reflect.Field field = object.getClass().getDeclaredField(name);
        field.setAccessible(true);
        return field.get(object);
    }
}
