import java.util.ArrayList;
import java.util.List;

/** All that can be asked of a store, as questions; so few at once that an object is used for less than 512 calls. */
final class Picture {
    interface Store {
        CurvekeyHouse build();
    }

    interface Question {
        long ask(CurvekeyHouse house);
    }

    private static final int SLICE = 300;

    private Picture() {
    }

    /** The name of what a call throws; empty, if it throws nothing. */
    static String thrownBy(CurvekeyHouse house, Question call) {
        try {
            call.ask(house);
            return "";
        } catch (RuntimeException thrown) {
            return thrown.getClass().getName();
        }
    }

    /** The first question that is answered otherwise behind the call than without it; NONE is -1. */
    static int firstChange(Store store, Question call) {
        return firstDifference(store, () -> {
            CurvekeyHouse tried = store.build();
            thrownBy(tried, call);
            return tried;
        });
    }

    /** The first question that the two answer otherwise; NONE is -1. */
    static int firstDifference(Store one, Store other) {
        CurvekeyHouse probe = one.build();
        List<Question> all = of(probe.many(0), probe.many(7));
        for (int from = 0; from < all.size(); from += SLICE) {
            CurvekeyHouse plain = one.build();
            CurvekeyHouse tried = other.build();
            for (int each = from; each < Math.min(all.size(), from + SLICE); each++) {
                if (!same(all.get(each), plain, tried)) {
                    return each;
                }
            }
        }
        return -1;
    }

    private static boolean same(Question question, CurvekeyHouse one, CurvekeyHouse other) {
        long[] answers = new long[2];
        String thrown = thrownBy(one, house -> answers[0] = question.ask(house));
        return thrown.equals(thrownBy(other, house -> answers[1] = question.ask(house))) && answers[0] == answers[1];
    }

    private static List<Question> of(int order, int version) {
        int side = 1 << order;
        List<Question> all = new ArrayList<>();
        all.add(CurvekeyHouse::digest);
        all.add(CurvekeyHouse::knock);
        for (int y = 0; y < side; y++) {
            int row = y;
            all.add(house -> house.row(row).hashCode());
            for (int x = 0; x < side; x++) {
                int column = x;
                all.add(house -> house.key(5, column, row));
            }
            for (int then = 0; then <= version; then++) {
                int each = then;
                all.add(house -> house.asOf(0, row, side, 1, each));
                all.add(house -> house.asOf(row, 0, 1, side, each));
            }
        }
        for (int level = 0; level <= order; level++) {
            for (int cell = 0; cell < 1 << 2 * level; cell++) {
                int atLevel = level;
                int atCell = cell;
                all.add(house -> house.density(atLevel, atCell));
                all.add(house -> house.tile(atLevel, atCell, false));
                all.add(house -> house.tile(atLevel, atCell, true));
            }
        }
        // then life goes on: what is held but cannot be asked shows as it does
        all.add(house -> house.bulk(3, 77));
        all.add(house -> house.tick(2));
        all.add(CurvekeyHouse::digest);
        all.add(CurvekeyHouse::sweep);
        all.add(house -> house.found(2, 5, 3));
        all.add(house -> house.bulk(9, 5));
        all.add(CurvekeyHouse::digest);
        all.add(CurvekeyHouse::knock);
        return all;
    }
}
