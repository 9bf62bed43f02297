/** Promises 8 to 15: bag, take, give, where, place, detail, steps, step. */
public final class BagCallsTest {
    public static void main(String[] args) {
        bagFindings();
        bagFull();
        takeFromEverywhere();
        takeFindings();
        takeFromTheMiddleOfARow();
        giveBehindOthers();
        giveFindings();
        giveChangesDoubt();
        whereaboutsAlongTheWay();
        endsOfTheWay();
        stepsOfAWay();
        onlyThirtyStepsAreKept();
        noSuchBag();
        Check.end();
    }

    /** Desk 0 - belt 0 - merge 1 - belt 1 - screen 2 - belt 2 - sorter 3 - belt 3 - store 4 - belt 4 - chute 5. */
    private static BagHall line(int cells, int opening, int close) {
        BagHall x = new BagHall();
        x.point(Check.DESK, 0);
        x.point(Check.MERGE, 0);
        x.point(Check.SCREEN, 2);
        x.point(Check.SORTER, 0);
        x.point(Check.STORE, 3);
        x.point(Check.CHUTE, 0);
        for (int i = 0; i < 5; i++) {
            x.belt(i, i + 1, cells);
        }
        x.flight(5, opening, close);
        return x;
    }

    private static void bagFindings() {
        BagHall x = line(1, 0, 9);
        Check.due("8: point -1", x.bag(-1, 0, false), Check.BEYOND);
        Check.due("8: point 6", x.bag(6, 0, false), Check.BEYOND);
        Check.due("8: flight -1", x.bag(0, -1, false), Check.BEYOND);
        Check.due("8: flight 1", x.bag(0, 1, true), Check.BEYOND);
        Check.due("8: BEYOND before KIND", x.bag(1, 1, true), Check.BEYOND);
        for (int point = 1; point < 6; point++) {
            Check.due("8: " + point + " is no DESK", x.bag(point, 0, false), Check.KIND);
        }
        Check.due("8: none was made", x.count(8), 0);
        Check.due("8: the first", x.bag(0, 0, false), 0);
        Check.due("8: the second", x.bag(0, 0, true), 1);
        Check.due("8: they wait", x.list(0, -1), 2);
        Check.due("8: in order", x.list(0, 1), 1);
        Check.due("8: both are at a desk", x.count(0), 2);
        Check.due("8: no step yet", x.steps(0), 0);
    }

    private static void bagFull() {
        BagHall x = line(1, 0, 9);
        for (int i = 0; i < 60; i++) {
            Check.due("8: bag " + i, x.bag(0, 0, false), i);
        }
        Check.due("8: the 61st", x.bag(0, 0, false), Check.FULL);
        Check.due("8: BEYOND before FULL", x.bag(0, 1, false), Check.BEYOND);
        Check.due("8: KIND before FULL", x.bag(1, 0, false), Check.KIND);
        Check.due("8: still 60", x.count(8), 60);
        Check.due("8: all wait", x.list(0, -1), 60);
        Check.due("8: the last", x.list(0, 59), 59);
        Check.due("8: 59 ahead", x.detail(59), 59);
    }

    /** The tick behind which the only bag of line(1, 20, 30) is at each place: desk, belts, points. */
    private static final int[] BEHIND = {0, 1, 2, 3, 4, 6, 7, 8, 9, 21};
    private static final int[] WHERE = {0, 1, 2, 1, 2, 1, 2, 1, 3, 1};
    private static final int[] PLACE = {0, 0, 1, 1, 2, 2, 3, 3, 4, 4};

    private static void goTo(BagHall x, int tick) {
        if (tick > x.count(13)) {
            x.tick(tick - x.count(13));
        }
    }

    private static void whereaboutsAlongTheWay() {
        BagHall x = line(1, 20, 30);
        x.bag(0, 0, false);
        for (int i = 0; i < BEHIND.length; i++) {
            goTo(x, BEHIND[i]);
            Check.due("11: where behind " + BEHIND[i], x.where(0), WHERE[i]);
            Check.due("12: place behind " + BEHIND[i], x.place(0), PLACE[i]);
            boolean atPoint = WHERE[i] == 2 || WHERE[i] == 3;
            Check.due("13: detail behind " + BEHIND[i], x.detail(0), atPoint ? BEHIND[i] - 1 : 0);
            Check.due("23: counted behind " + BEHIND[i], x.count(WHERE[i]), 1);
        }
        goTo(x, 22);
        Check.due("11: LOADED", x.where(0), 5);
        Check.due("12: at its chute", x.place(0), 5);
        Check.due("13: came at", x.detail(0), 21);
    }

    private static void takeFromEverywhere() {
        for (int i = 0; i < BEHIND.length; i++) {
            BagHall x = line(1, 20, 30);
            x.bag(0, 0, false);
            goTo(x, BEHIND[i]);
            Check.due("9: taken behind " + BEHIND[i], x.take(0), 1);
            Check.due("11: IN HAND", x.where(0), 4);
            Check.due("12: IN HAND", x.place(0), -100);
            int findings = x.count(14);
            x.place(0);
            Check.due("12: -100 is no finding", x.count(14), findings);
            Check.due("13: IN HAND", x.detail(0), Check.NONE);
            Check.due("9: it left the desk", x.list(0, -1), 0);
            Check.due("9: it left the store", x.list(4, -1), 0);
            for (int p = 1; p < 4; p++) {
                Check.due("9: it left point " + p, x.holds(p), Check.NONE);
            }
            for (int b = 0; b < 5; b++) {
                Check.due("9: it left belt " + b, x.cell(b, 0), Check.NONE);
            }
            x.tick(40);
            Check.due("9: it stays IN HAND", x.where(0), 4);
            Check.due("9: and is given back", x.give(0, 0, false), 1);
            Check.due("9: and flies late", x.tick(40) > 0 ? x.where(0) : -9, 6);
        }
    }

    private static void takeFindings() {
        BagHall x = line(1, 0, 5000);
        x.bag(0, 0, false);
        Check.due("9: bag -1", x.take(-1), Check.BEYOND);
        Check.due("9: bag 1", x.take(1), Check.BEYOND);
        x.take(0);
        Check.due("9: IN HAND already", x.take(0), Check.TAKEN);
        x.give(0, 0, false);
        x.tick(30);
        Check.due("9: it is LOADED", x.where(0), 5);
        Check.due("9: LOADED", x.take(0), Check.TAKEN);
        x = line(1, 0, 1);
        x.bag(0, 0, false);
        x.tick(30);
        Check.due("9: it is LATE", x.where(0), 6);
        Check.due("9: LATE", x.take(0), Check.TAKEN);
        x = strayHall();
        x.tick(3);
        Check.due("9: it is ASTRAY", x.where(0), 7);
        Check.due("9: ASTRAY", x.take(0), Check.TAKEN);
        Check.due("9: nothing changed", x.where(0), 7);
    }

    /** A desk whose only belt leads to a chute that is not that of its bag's flight. */
    private static BagHall strayHall() {
        BagHall x = new BagHall();
        x.point(Check.DESK, 0);
        x.point(Check.CHUTE, 0);
        x.point(Check.CHUTE, 0);
        x.belt(0, 2, 1);
        x.flight(1, 0, 100);
        x.bag(0, 0, false);
        return x;
    }

    private static void takeFromTheMiddleOfARow() {
        BagHall x = line(3, 0, 9);
        for (int i = 0; i < 4; i++) {
            x.bag(0, 0, false);
        }
        Check.due("13: two ahead", x.detail(2), 2);
        x.take(1);
        Check.due("9: one less ahead", x.detail(2), 1);
        Check.due("9: the first stays", x.detail(0), 0);
        Check.due("19: three wait", x.list(0, -1), 3);
        Check.due("19: behind the gap", x.list(0, 1), 2);
        Check.due("19: the last", x.list(0, 2), 3);
        Check.due("19: none behind it", x.list(0, 3), Check.NONE);
    }

    private static void giveBehindOthers() {
        BagHall x = line(1, 0, 9);
        x.point(Check.DESK, 0);
        x.bag(0, 0, false);
        x.bag(0, 0, false);
        x.bag(0, 0, false);
        x.take(0);
        Check.due("10: third again", x.give(0, 0, false), 3);
        Check.due("10: behind 1 and 2", x.detail(0), 2);
        Check.due("10: 1 is first", x.list(0, 0), 1);
        x.take(1);
        Check.due("10: at another desk", x.give(1, 6, false), 1);
        Check.due("10: there", x.place(1), 6);
        Check.due("10: it waits", x.where(1), 0);
        Check.due("10: two are left", x.list(0, -1), 2);
    }

    private static void giveFindings() {
        BagHall x = line(1, 0, 9);
        x.bag(0, 0, false);
        Check.due("10: bag -1", x.give(-1, 0, false), Check.BEYOND);
        Check.due("10: bag 1", x.give(1, 0, false), Check.BEYOND);
        Check.due("10: point -1", x.give(0, -1, false), Check.BEYOND);
        Check.due("10: point 6", x.give(0, 6, false), Check.BEYOND);
        Check.due("10: KIND before NONE", x.give(0, 1, false), Check.KIND);
        Check.due("10: not IN HAND", x.give(0, 0, false), Check.NONE);
        x.take(0);
        Check.due("10: no DESK", x.give(0, 5, false), Check.KIND);
        Check.due("10: BEYOND before KIND", x.give(1, 5, false), Check.BEYOND);
        Check.due("10: still IN HAND", x.where(0), 4);
    }

    private static void giveChangesDoubt() {
        for (int i = 0; i < 2; i++) {
            boolean doubtful = i == 1;
            BagHall x = new BagHall();
            x.point(Check.DESK, 0);
            x.point(Check.SCREEN, 1);
            x.point(Check.CHUTE, 0);
            x.point(Check.CHUTE, 0);
            x.belt(0, 1, 1);
            x.belt(1, 2, 1);
            x.belt(1, 3, 1);
            x.flight(2, 0, 100);
            x.bag(0, 0, !doubtful);
            x.take(0);
            x.give(0, 0, doubtful);
            x.tick(10);
            Check.due("10: doubtful " + doubtful, x.place(0), doubtful ? 3 : 2);
        }
    }

    private static void endsOfTheWay() {
        // With one cell a bag is given at tick 0 and comes to the chute at tick 1.
        for (int close = 0; close < 4; close++) {
            BagHall x = new BagHall();
            x.point(Check.DESK, 0);
            x.point(Check.CHUTE, 0);
            x.belt(0, 1, 1);
            x.flight(1, 0, close);
            x.bag(0, 0, false);
            x.tick(2);
            Check.due("11: close " + close, x.where(0), close > 1 ? 5 : 6);
            Check.due("12: close " + close, x.place(0), 1);
            Check.due("13: close " + close, x.detail(0), 1);
        }
        BagHall x = strayHall();
        x.tick(2);
        Check.due("11: ASTRAY", x.where(0), 7);
        Check.due("12: ASTRAY", x.place(0), 2);
        Check.due("13: ASTRAY", x.detail(0), 1);
    }

    private static void stepsOfAWay() {
        BagHall x = line(1, 20, 30);
        x.bag(0, 0, false);
        Check.due("14: none", x.steps(0), 0);
        Check.due("15: none kept", x.step(0, 0, false), Check.BEYOND);
        x.tick(30);
        int[] ticks = {0, 1, 3, 6, 8, 21};
        Check.due("14: six", x.steps(0), 6);
        for (int i = 0; i < 6; i++) {
            Check.due("15: point of " + i, x.step(0, i, false), i);
            Check.due("15: tick of " + i, x.step(0, i, true), ticks[i]);
        }
        Check.due("15: step 6", x.step(0, 6, true), Check.BEYOND);
        Check.due("15: step -1", x.step(0, -1, false), Check.BEYOND);
        Check.due("15: least step", x.step(0, Integer.MIN_VALUE, false), Check.BEYOND);
        Check.due("15: greatest step", x.step(0, Integer.MAX_VALUE, false), Check.BEYOND);
    }

    private static void onlyThirtyStepsAreKept() {
        BagHall x = new BagHall();
        x.point(Check.DESK, 0);
        x.point(Check.MERGE, 0);
        x.point(Check.MERGE, 0);
        x.point(Check.CHUTE, 0);
        x.belt(0, 1, 1);
        x.belt(1, 2, 1);
        x.belt(2, 1, 1);
        x.flight(3, 0, 0);
        x.bag(0, 0, false);
        x.tick(59);
        // Given at tick 0, then taken at 1, 3, 5, .. 57: by 1 and 2 in turn.
        Check.due("14: thirty", x.steps(0), 30);
        Check.due("15: the 30th", x.step(0, 29, true), 57);
        Check.due("15: at 1 again", x.step(0, 29, false), 1);
        Check.due("15: at 2", x.step(0, 28, false), 2);
        Check.due("15: no 31st yet", x.step(0, 30, true), Check.BEYOND);
        x.tick(41);
        Check.due("14: all are counted", x.steps(0), 51);
        Check.due("15: the 30th stays", x.step(0, 29, true), 57);
        Check.due("15: the 31st is not kept", x.step(0, 30, true), Check.BEYOND);
        x.take(0);
        Check.due("14: a hand is no step", x.steps(0), 51);
        x.give(0, 0, false);
        Check.due("14: waiting is no step", x.steps(0), 51);
        x.tick(1);
        Check.due("14: a desk's giving is one", x.steps(0), 52);
    }

    private static void noSuchBag() {
        BagHall x = line(1, 0, 9);
        x.bag(0, 0, false);
        int[] wrong = {-1, 1, 60, Integer.MIN_VALUE, Integer.MAX_VALUE};
        for (int bag : wrong) {
            Check.due("9: bag " + bag, x.take(bag), Check.BEYOND);
            Check.due("10: bag " + bag, x.give(bag, 0, true), Check.BEYOND);
            Check.due("11: bag " + bag, x.where(bag), Check.BEYOND);
            Check.due("12: bag " + bag, x.place(bag), Check.BEYOND);
            Check.due("13: bag " + bag, x.detail(bag), Check.BEYOND);
            Check.due("14: bag " + bag, x.steps(bag), Check.BEYOND);
            Check.due("15: bag " + bag, x.step(bag, 0, true), Check.BEYOND);
        }
        Check.due("23: each was a finding", x.count(14), 35);
    }
}
