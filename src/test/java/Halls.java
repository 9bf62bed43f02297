/** Halls that several tests need, and the numbers that are none of a row. */
final class Halls {
    private Halls() {
    }

    /** A hall with a point for each pair of a kind and a value. */
    static BagHall of(int... kindsAndValues) {
        BagHall x = new BagHall();
        for (int i = 0; i + 1 < kindsAndValues.length; i += 2) {
            x.point(kindsAndValues[i], kindsAndValues[i + 1]);
        }
        return x;
    }

    /** Point 0 is a DESK, 1 a MERGE, 2 a SCREEN of 1, 3 a SORTER, 4 a STORE of 1, 5 a CHUTE. */
    static BagHall oneOfEach() {
        return of(Check.DESK, 0, Check.MERGE, 0, Check.SCREEN, 1, Check.SORTER, 0, Check.STORE, 1, Check.CHUTE, 0);
    }

    /**
     * One of each kind in a line, by belts 0 to 4 of so many cells, and flight 0. A bag that desk 0
     * gives at tick 0 comes, with belts of one cell, to 1 at tick 1, to 2 at 3, to 3 at 5, to 4 at 7
     * and, with an OPENING not above 8, to 5 at 9.
     */
    static BagHall line(int cells, int opening, int close) {
        BagHall x = oneOfEach();
        for (int i = 0; i < 5; i++) {
            x.belt(i, i + 1, cells);
        }
        x.flight(5, opening, close);
        return x;
    }

    /** DESK 0, then the point of the kind as 1, then CHUTE 2: belt 0 of one cell leads to 1; flight 0. */
    static BagHall deskTo(int kind, int v) {
        BagHall x = of(Check.DESK, 0, kind, v, Check.CHUTE, 0);
        x.belt(0, 1, 1);
        x.flight(2, 0, 5000);
        return x;
    }

    /** Belts, by three numbers each: from, to, cells. */
    static void belts(BagHall x, int... fromToCells) {
        for (int i = 0; i + 2 < fromToCells.length; i += 3) {
            x.belt(fromToCells[i], fromToCells[i + 1], fromToCells[i + 2]);
        }
    }

    static void bags(BagHall x, int desk, int flight, int n) {
        for (int i = 0; i < n; i++) {
            x.bag(desk, flight, false);
        }
    }

    static void fall(BagHall x, boolean on, int... belts) {
        for (int belt : belts) {
            x.fall(belt, on);
        }
    }

    /** Lets ticks go until THE TICK is the one told. */
    static void goTo(BagHall x, int tick) {
        int left = tick - x.count(13);
        while (left > 0) {
            int n = Math.min(left, 100);
            x.tick(n);
            left -= n;
        }
    }

    /**
     * Numbers outside of least to most: the nearest ones, the least and greatest of all, and some
     * that would be inside if a number lost its upper bits.
     */
    static int[] outside(int least, int most) {
        return new int[] {
            least - 1, least - 2, least - 50, most + 1, most + 2, most + 50,
            Integer.MIN_VALUE, Integer.MIN_VALUE + 1, Integer.MIN_VALUE + 1 + least,
            Integer.MAX_VALUE, Integer.MAX_VALUE - 1,
            (1 << 16) + least, (1 << 24) + least, least - (1 << 16), least - (1 << 24),
        };
    }

    /**
     * All rows of the document are full: 12 points, 16 belts, 8 flights, 60 bags. It is kept at
     * tick 9 and has gone on to 16; belts 6 and 12 are FALLEN; bag 40 is IN HAND.
     */
    static BagHall fullAndBusy() {
        BagHall x = of(Check.DESK, 0, Check.DESK, 0, Check.MERGE, 0, Check.SCREEN, 2, Check.SORTER, 0, Check.STORE, 3,
            Check.CHUTE, 0, Check.CHUTE, 0, Check.MERGE, 0, Check.STORE, 4, Check.SORTER, 0, Check.DESK, 0);
        belts(x, 0, 2, 2, 1, 2, 1, 2, 3, 2, 3, 4, 1, 3, 2, 3, 4, 6, 2, 4, 7, 3, 4, 5, 1);
        belts(x, 5, 4, 1, 4, 8, 1, 8, 6, 1, 11, 9, 1, 9, 7, 1, 11, 10, 1, 8, 2, 12, 2, 10, 12);
        for (int i = 0; i < 8; i++) {
            x.flight(i % 2 == 0 ? 6 : 7, i * 5, i * 5 + 9);
        }
        int[] desks = {0, 1, 11};
        for (int i = 0; i < 60; i++) {
            x.bag(desks[i % 3], i % 8, i % 5 == 1);
        }
        x.turns(0, 3);
        x.turns(1, 2);
        x.tick(9);
        x.keep();
        x.tick(5);
        x.fall(6, true);
        x.fall(12, true);
        x.take(40);
        x.tick(2);
        return x;
    }
}
