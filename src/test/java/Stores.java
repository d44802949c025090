/** Stores that several tests begin with; each call builds a new one, with few calls. */
final class Stores {
    private Stores() {
    }

    static CurvekeyHouse empty(int order, int curve, int capacity) {
        CurvekeyHouse house = new CurvekeyHouse();
        house.found(order, curve, capacity);
        return house;
    }

    /** By rows, with a point at each of these keys, numbered as they are told. */
    static CurvekeyHouse rows(int order, int capacity, int... keys) {
        CurvekeyHouse house = empty(order, 0, capacity);
        for (int key : keys) {
            house.put(key % (1 << order), key >> order);
        }
        return house;
    }

    /**
     * A bit of everything, on a plane of the side 8 by a curve of its own: points alive and gone, tombs, pages,
     * speeds, spells, fresh and stale tiles, three machines, searches, one who knocked.
     */
    static CurvekeyHouse busy() {
        CurvekeyHouse house = new CurvekeyHouse();
        house.design(9, 2, 28, 23);
        house.found(3, 5, 3);
        house.bulk(9, 7);
        house.put(7, 7);
        house.put(6, 7);
        house.speed(0, 1, 0);
        house.speed(3, -2, 1);
        house.speed(10, 1, 0);
        house.draw(0, 0);
        house.draw(1, 3);
        house.draw(3, 0);
        house.tick(2);
        house.remove(1);
        house.remove(4);
        house.move(2, 0, 7);
        house.draw(2, 5);
        house.draw(1, 3);
        house.share(3);
        house.search(1, 1, 4, 4, 3);
        house.knock();
        return house;
    }

    /** 80 points in the first five rows of a plane of the side 16, by the curve 3; no point more may come. */
    static CurvekeyHouse full() {
        CurvekeyHouse house = empty(4, 3, 8);
        for (int number = 0; number < 80; number++) {
            house.put(number % 16, number / 16);
        }
        return house;
    }

    /** Four points on each of the four places. */
    static CurvekeyHouse crowded() {
        return rows(1, 2, 0, 1, 2, 3);
    }

    /** A plane of the side 4 on which each tile that can be is drawn: 20, and the last quarter is not. */
    static CurvekeyHouse drawn() {
        CurvekeyHouse house = rows(2, 2, 0, 5, 15);
        house.draw(0, 0);
        house.draw(1, 0);
        house.draw(1, 1);
        house.draw(1, 2);
        for (int cell = 0; cell < 16; cell++) {
            house.draw(2, cell);
        }
        return house;
    }

    /** Keys 0, 1 and 2; 1 is gone, its tomb is there. */
    static CurvekeyHouse oneGone() {
        CurvekeyHouse house = rows(2, 3, 0, 1, 2);
        house.remove(1);
        return house;
    }

    /** Keys 0, 1 and 2; 1 moved to 15, its tomb is there. */
    static CurvekeyHouse oneMoved() {
        CurvekeyHouse house = rows(2, 3, 0, 1, 2);
        house.move(1, 3, 3);
        return house;
    }
}
