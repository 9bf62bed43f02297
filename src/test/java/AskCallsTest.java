/** Promises 17 to 23: cell, holds, list, far, route, flown, count. */
public final class AskCallsTest {
    public static void main(String[] args) {
        cells();
        heldBags();
        lists();
        farFindings();
        farIsTheLeastSum();
        farOfManyPoints();
        routes();
        routeIgnoresFullCells();
        flownOfAFlight();
        counts();
        countsOfFindings();
        Check.end();
    }

    private static final int[] NO_NUMBERS = {-1, 12, 16, 60, Integer.MIN_VALUE, Integer.MAX_VALUE};

    private static BagHall oneOfEach() {
        BagHall x = new BagHall();
        x.point(Check.DESK, 0);
        x.point(Check.MERGE, 0);
        x.point(Check.SCREEN, 9);
        x.point(Check.SORTER, 0);
        x.point(Check.STORE, 20);
        x.point(Check.CHUTE, 0);
        return x;
    }

    private static void cells() {
        BagHall x = oneOfEach();
        x.belt(0, 5, 3);
        x.belt(0, 1, 12);
        x.flight(5, 0, 9);
        x.bag(0, 0, false);
        for (int no : NO_NUMBERS) {
            Check.due("17: belt " + no, x.cell(no, 0), Check.BEYOND);
            Check.due("17: cell " + no, x.cell(0, no), Check.BEYOND);
        }
        Check.due("17: belt 2", x.cell(2, 0), Check.BEYOND);
        Check.due("17: cell 3", x.cell(0, 3), Check.BEYOND);
        Check.due("17: free", x.cell(0, 2), Check.NONE);
        Check.due("17: free, 11", x.cell(1, 11), Check.NONE);
        x.tick(1);
        Check.due("17: the bag", x.cell(0, 0), 0);
        x.tick(1);
        Check.due("17: one on", x.cell(0, 1), 0);
        Check.due("17: left", x.cell(0, 0), Check.NONE);
    }

    private static void heldBags() {
        BagHall x = oneOfEach();
        for (int no : NO_NUMBERS) {
            Check.due("18: point " + no, x.holds(no), Check.BEYOND);
        }
        Check.due("18: point 6", x.holds(6), Check.BEYOND);
        Check.due("18: DESK", x.holds(0), Check.KIND);
        Check.due("18: STORE", x.holds(4), Check.KIND);
        Check.due("18: CHUTE", x.holds(5), Check.KIND);
        x.flight(5, 0, 9);
        for (int p = 1; p <= 3; p++) {
            Check.due("18: none at " + p, x.holds(p), Check.NONE);
            x.fall(p - 2, true);
            x.belt(0, p, 1);
            x.bag(0, 0, false);
            x.tick(2);
            Check.due("18: held at " + p, x.holds(p), p - 1);
            x.fall(p - 1, true);
        }
    }

    private static void lists() {
        BagHall x = oneOfEach();
        x.belt(0, 4, 1);
        x.flight(5, 100, 100);
        for (int no : NO_NUMBERS) {
            Check.due("19: point " + no, x.list(no, -1), Check.BEYOND);
        }
        for (int p = 1; p <= 5; p++) {
            if (p != 4) {
                Check.due("19: kind of " + p, x.list(p, -1), Check.KIND);
                Check.due("19: KIND before NONE at " + p, x.list(p, 9), Check.KIND);
            }
        }
        Check.due("19: none wait", x.list(0, -1), 0);
        Check.due("19: none lie", x.list(4, -1), 0);
        Check.due("19: no first", x.list(0, 0), Check.NONE);
        Check.due("19: no first in store", x.list(4, 0), Check.NONE);
        for (int i = 0; i < 5; i++) {
            x.bag(0, 0, false);
        }
        x.tick(4);
        Check.due("19: three wait", x.list(0, -1), 3);
        Check.due("19: the first to go", x.list(0, 0), 2);
        Check.due("19: the last to go", x.list(0, 2), 4);
        Check.due("19: two lie", x.list(4, -1), 2);
        Check.due("19: by coming 0", x.list(4, 0), 0);
        Check.due("19: by coming 1", x.list(4, 1), 1);
        Check.due("19: i 2", x.list(4, 2), Check.NONE);
        Check.due("19: i 3", x.list(0, 3), Check.NONE);
        Check.due("19: i -2", x.list(0, -2), Check.NONE);
        Check.due("19: least i", x.list(0, Integer.MIN_VALUE), Check.NONE);
        Check.due("19: greatest i", x.list(4, Integer.MAX_VALUE), Check.NONE);
    }

    private static void farFindings() {
        BagHall x = oneOfEach();
        for (int no : NO_NUMBERS) {
            Check.due("20: point " + no, x.far(no, 5), Check.BEYOND);
            Check.due("20: chute " + no, x.far(0, no), Check.BEYOND);
        }
        for (int p = 0; p < 5; p++) {
            Check.due("20: no CHUTE " + p, x.far(0, p), Check.KIND);
            Check.due("20: no way from " + p, x.far(p, 5), Check.NONE);
        }
        Check.due("20: itself", x.far(5, 5), 0);
        Check.due("20: BEYOND before KIND", x.far(6, 0), Check.BEYOND);
    }

    private static void farIsTheLeastSum() {
        BagHall x = oneOfEach();
        x.point(Check.CHUTE, 0);
        x.belt(0, 1, 2);
        x.belt(1, 2, 3);
        x.belt(2, 3, 1);
        x.belt(3, 4, 4);
        x.belt(4, 5, 5);
        x.belt(3, 1, 1);
        Check.due("20: from the desk", x.far(0, 5), 15);
        Check.due("20: from the sorter", x.far(3, 5), 9);
        Check.due("20: the other chute", x.far(0, 6), Check.NONE);
        Check.due("20: from chute to chute", x.far(6, 5), Check.NONE);
        x.belt(2, 5, 12);
        Check.due("20: not shorter", x.far(0, 5), 15);
        x.belt(1, 5, 12);
        Check.due("20: shorter from 1", x.far(0, 5), 14);
        Check.due("20: from 3 it stays", x.far(3, 5), 9);
        x.fall(4, true);
        Check.due("20: 3 by 1 and 7", x.far(3, 5), 13);
        Check.due("20: 4 has no way", x.far(4, 5), Check.NONE);
        x.fall(7, true);
        Check.due("20: 3 by 1, 2 and 6", x.far(3, 5), 16);
        Check.due("20: the desk by 6", x.far(0, 5), 17);
        x.fall(0, true);
        Check.due("20: the desk has none", x.far(0, 5), Check.NONE);
        x.fall(0, false);
        x.fall(4, false);
        Check.due("20: mended", x.far(0, 5), 15);
        Check.due("20: bags do not matter", x.far(5, 5), 0);
    }

    private static void farOfManyPoints() {
        BagHall x = new BagHall();
        x.point(Check.DESK, 0);
        for (int i = 1; i < 11; i++) {
            x.point(Check.MERGE, 0);
        }
        x.point(Check.CHUTE, 0);
        for (int i = 0; i < 11; i++) {
            x.belt(i, i + 1, 12);
        }
        Check.due("20: through all twelve", x.far(0, 11), 132);
        x.belt(0, 11, 12);
        Check.due("20: straight", x.far(0, 11), 12);
    }

    /** Sorter 0, chutes 1 and 2, merge 3: belts 0 (0-1, 5), 1 (0-3, 2), 2 (3-1, 3), 3 (0-2, 1), 4 (3-0, 1). */
    private static BagHall sorterHall() {
        BagHall x = new BagHall();
        x.point(Check.SORTER, 0);
        x.point(Check.CHUTE, 0);
        x.point(Check.CHUTE, 0);
        x.point(Check.MERGE, 0);
        x.belt(0, 1, 5);
        x.belt(0, 3, 2);
        x.belt(3, 1, 3);
        x.belt(0, 2, 1);
        x.belt(3, 0, 1);
        x.flight(1, 0, 9);
        x.flight(2, 0, 9);
        return x;
    }

    private static void routes() {
        BagHall x = sorterHall();
        for (int no : NO_NUMBERS) {
            Check.due("21: point " + no, x.route(no, 0), Check.BEYOND);
            Check.due("21: flight " + no, x.route(0, no), Check.BEYOND);
        }
        Check.due("21: MERGE", x.route(3, 0), Check.KIND);
        Check.due("21: CHUTE", x.route(1, 0), Check.KIND);
        Check.due("21: BEYOND before KIND", x.route(3, 2), Check.BEYOND);
        Check.due("21: of several the lowest", x.route(0, 0), 0);
        Check.due("21: the other chute", x.route(0, 1), 3);
        x.fall(0, true);
        Check.due("21: by the merge", x.route(0, 0), 1);
        x.fall(2, true);
        Check.due("21: no way", x.route(0, 0), Check.NONE);
        x.fall(3, true);
        Check.due("21: no way to the other", x.route(0, 1), Check.NONE);
        x.fall(0, false);
        Check.due("21: mended", x.route(0, 0), 0);
        x.belt(0, 1, 4);
        Check.due("21: a shorter one", x.route(0, 0), 5);
    }

    private static void routeIgnoresFullCells() {
        BagHall x = new BagHall();
        x.point(Check.DESK, 0);
        x.point(Check.SORTER, 0);
        x.point(Check.MERGE, 0);
        x.point(Check.CHUTE, 0);
        x.belt(0, 1, 1);
        x.belt(1, 2, 1);
        x.belt(1, 3, 9);
        x.belt(2, 3, 1);
        x.flight(3, 0, 9);
        for (int i = 0; i < 4; i++) {
            x.bag(0, 0, false);
        }
        x.turns(1, 0);
        x.tick(20);
        Check.due("21: cell 0 is full", x.cell(1, 0), 0);
        Check.due("21: it would send there", x.route(1, 0), 1);
        Check.due("21: and waits for it", x.holds(1), 1);
        Check.due("21: not by the other", x.cell(2, 0), Check.NONE);
    }

    private static void flownOfAFlight() {
        BagHall x = new BagHall();
        x.point(Check.DESK, 0);
        x.point(Check.DESK, 0);
        x.point(Check.CHUTE, 0);
        x.point(Check.CHUTE, 0);
        x.belt(0, 2, 1);
        x.belt(1, 3, 1);
        x.flight(2, 1, 4);
        x.flight(3, 7, 8);
        for (int i = 0; i < 4; i++) {
            x.bag(0, 0, false);
        }
        x.bag(1, 0, false);
        x.bag(1, 1, false);
        x.bag(0, 1, true);
        x.bag(1, 0, false);
        x.bag(1, 0, false);
        x.take(8);
        x.tick(20);
        // Desk 0: 0 comes at 1, 1 at 3, 2 at 5, 3 at 7, 6 at 9. Desk 1: 4 at 1, 5 at 3, 7 at 5.
        int[] first = {2, 1, 4, 2, 2, 2, 7};
        int[] second = {3, 7, 8, 1, 0, 1, 2};
        for (int what = 0; what <= 6; what++) {
            Check.due("22: flown(0, " + what + ")", x.flown(0, what), first[what]);
            Check.due("22: flown(1, " + what + ")", x.flown(1, what), second[what]);
        }
        for (int no : NO_NUMBERS) {
            Check.due("22: flight " + no, x.flown(no, 0), Check.BEYOND);
            Check.due("22: what " + no, x.flown(0, no), Check.BEYOND);
        }
        Check.due("22: what 7", x.flown(0, 7), Check.BEYOND);
        Check.due("22: flight 2", x.flown(2, 6), Check.BEYOND);
    }

    private static void counts() {
        BagHall x = oneOfEach();
        x.belt(0, 5, 1);
        x.belt(0, 4, 1);
        x.belt(0, 3, 1);
        x.point(Check.DESK, 0);
        x.point(Check.CHUTE, 0);
        x.belt(6, 7, 1);
        x.flight(5, 100, 100);
        x.flight(7, 0, 0);
        for (int i = 0; i < 6; i++) {
            x.bag(0, 0, false);
        }
        x.bag(6, 1, false);
        x.bag(6, 0, false);
        x.tick(2);
        x.fall(0, true);
        x.tick(2);
        x.fall(1, true);
        x.tick(2);
        x.take(5);
        x.tick(2);
        // 0 LOADED, 1 stored, 2 at the sorter, 3 on belt 2, 4 waits, 5 IN HAND, 6 LATE, 7 ASTRAY
        for (int where = 0; where <= 7; where++) {
            Check.due("23: count(" + where + ")", x.count(where), 1);
        }
        int[] rest = {8, 8, 4, 2, 2, 8};
        for (int i = 0; i < rest.length; i++) {
            Check.due("23: count(" + (8 + i) + ")", x.count(8 + i), rest[i]);
        }
        Check.due("23: none was a finding", x.count(14), 0);
        Check.due("23: -1", x.count(-1), Check.BEYOND);
        Check.due("23: 15", x.count(15), Check.BEYOND);
        Check.due("23: greatest", x.count(Integer.MAX_VALUE), Check.BEYOND);
        Check.due("23: least", x.count(Integer.MIN_VALUE), Check.BEYOND);
        Check.due("23: these were four", x.count(14), 4);
    }

    private static void countsOfFindings() {
        BagHall x = oneOfEach();
        x.belt(0, 1, 1);
        x.flight(5, 0, 9);
        x.bag(0, 0, false);
        x.point(9, 0);
        x.belt(0, 0, 1);
        x.as(0, 1);
        x.turns(9, 0);
        x.flight(0, 0, 0);
        x.fall(9, true);
        x.bag(9, 0, false);
        Check.due("23: the hall's", x.count(14), 7);
        x.take(9);
        x.give(0, 0, false);
        x.where(9);
        x.place(9);
        x.detail(9);
        x.steps(9);
        x.step(0, 0, true);
        Check.due("23: the bags'", x.count(14), 14);
        x.tick(0);
        x.cell(0, 0);
        x.holds(0);
        x.list(0, 9);
        x.far(0, 5);
        x.route(0, 0);
        x.flown(0, 9);
        x.count(99);
        x.back();
        Check.due("23: the ticks'", x.count(14), 23);
        x.keep();
        x.tick(1);
        x.fall(0, true);
        x.fall(0, true);
        x.take(0);
        x.take(0);
        x.place(0);
        Check.due("23: answers of 0 and -100 are none", x.count(14), 24);
    }
}
