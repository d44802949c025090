import java.math.BigInteger;

/**
 * The digest by numbers without an end, cut to 64 bits: none of the house's own arithmetic is used. A new house is
 * built for each 25 points, so that none is asked too often.
 */
final class ByHand {
    private static final BigInteger WORD = BigInteger.ONE.shiftLeft(64);
    private BigInteger d = BigInteger.valueOf(58283);

    private ByHand() {
    }

    static long digest(Picture.Store store) {
        ByHand sum = new ByHand();
        CurvekeyHouse house = store.build();
        for (int what = 0; what <= 15; what++) {
            sum.mix(house.many(what));
        }
        for (int curve = 0; curve <= 5; curve++) {
            for (int what = 0; what <= 3; what++) {
                sum.mix(house.ofCurve(curve, what));
            }
        }
        sum.mixPoints(store, house.many(3));
        sum.mixRest(store.build());
        return sum.d.longValue();
    }

    private void mix(long v) {
        d = d.multiply(BigInteger.valueOf(31)).add(BigInteger.valueOf(v)).mod(WORD);
    }

    private void mixPoints(Picture.Store store, int points) {
        CurvekeyHouse house = store.build();
        for (int point = 0; point < points; point++) {
            house = point % 25 == 0 ? store.build() : house;
            for (int what = 0; what <= 9; what++) {
                mix(house.ofPoint(point, what));
            }
        }
    }

    private void mixRest(CurvekeyHouse house) {
        for (int page = 0; page < house.many(5); page++) {
            for (int what = 0; what <= 5; what++) {
                mix(house.ofPage(page, what));
            }
        }
        mix(house.extreme(true));
        mix(house.extreme(false));
        mix(house.error());
        mix(house.pieces(1));
        for (int machine = 0; machine < house.many(11); machine++) {
            for (int what = 0; what <= 2; what++) {
                mix(house.ofMachine(machine, what));
            }
        }
        mix(house.skew());
        for (int what = 0; what <= 2; what++) {
            mix(house.rival(what));
        }
        mix(house.isSound() ? 1 : 0);
    }
}
