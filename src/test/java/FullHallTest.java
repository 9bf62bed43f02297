/** Halls with as much in them as the document allows, and things at the lowest and highest numbers. */
public final class FullHallTest {
    public static void main(String[] args) {
        allIsFull();
        everyKindAsPointNought();
        mergeWhoseInletsAreNotTheFirstBelts();
        manyTicks();
        Check.end();
    }

    /** Desk 0 to merge 1 to .. merge 10 to chute 11, with belts 11 to 15 from desk 0 to the chute. */
    private static BagHall fullHall() {
        BagHall x = new BagHall();
        x.point(Check.DESK, 0);
        for (int i = 1; i < 11; i++) {
            x.point(Check.MERGE, 0);
        }
        x.point(Check.CHUTE, 0);
        for (int i = 0; i < 11; i++) {
            x.belt(i, i + 1, 12);
        }
        for (int i = 11; i < 16; i++) {
            x.belt(0, 11, i - 10);
        }
        for (int i = 0; i < 8; i++) {
            x.flight(11, 0, 5000);
        }
        for (int i = 0; i < 60; i++) {
            x.bag(0, i % 8, i % 2 == 0);
        }
        return x;
    }

    private static void allIsFull() {
        BagHall x = fullHall();
        int[] due = {60, 12, 16, 8, 0, 0, 0};
        for (int i = 0; i < due.length; i++) {
            Check.due("23: full, count(" + (8 + i) + ")", x.count(8 + i), due[i]);
        }
        Check.due("22: bags of flight 3", x.flown(3, 6), 8);
        Check.due("22: bags of flight 4", x.flown(4, 6), 7);
        Check.due("20: far", x.far(0, 11), 1);
        x.keep();
        x.tick(100);
        Check.due("2t: every second tick one is given", x.list(0, -1), 10);
        Check.due("2t: all are on their way", x.count(1) + x.count(2), 50);
        for (int i = 0; i < 16; i++) {
            Check.due("7: fall " + i, x.fall(i, true), 1);
        }
        Check.due("23: all FALLEN", x.count(12), 16);
        Check.due("20: no way", x.far(0, 11), Check.NONE);
        x.tick(100);
        Check.due("2t: all rests but what the merges hold", x.list(0, -1), 10);
        x.fall(15, false);
        x.tick(30);
        Check.due("2t: the highest belt", x.list(0, -1), 0);
        Check.due("2t: it leads to the chute", x.count(5), 10);
        Check.due("25: back", x.back(), 0);
        Check.due("25: all wait again", x.list(0, -1), 60);
        Check.due("25: all sound", x.count(12), 0);
        for (int i = 0; i < 11; i++) {
            x.fall(i, true);
        }
        x.tick(100);
        x.tick(100);
        Check.due("2t: all came by belt 11", x.count(5), 60);
        for (int i = 0; i < 8; i++) {
            Check.due("22: all of " + i + " are LOADED", x.flown(i, 3), x.flown(i, 6));
        }
    }

    private static void everyKindAsPointNought() {
        for (int kind = Check.MERGE; kind <= Check.STORE; kind++) {
            BagHall x = new BagHall();
            x.point(kind, 1);
            x.point(Check.CHUTE, 0);
            x.point(Check.DESK, 0);
            x.belt(0, 1, 1);
            x.belt(2, 0, 1);
            x.flight(1, 0, 9);
            x.bag(2, 0, false);
            x.tick(2);
            Check.due("2t: point 0 of kind " + kind + " took", x.place(0), 0);
            x.tick(1);
            Check.due("2t: and gave to belt 0", x.cell(0, 0), 0);
            x.tick(1);
            Check.due("2t: to the chute", x.where(0), 5);
        }
        BagHall x = new BagHall();
        x.point(Check.CHUTE, 0);
        x.point(Check.DESK, 0);
        x.belt(1, 0, 1);
        x.flight(0, 0, 9);
        x.bag(1, 0, false);
        Check.due("20: to chute 0", x.far(1, 0), 1);
        x.tick(2);
        Check.due("2t: chute 0 took", x.where(0), 5);
    }

    private static void mergeWhoseInletsAreNotTheFirstBelts() {
        BagHall x = new BagHall();
        x.point(Check.DESK, 0);
        x.point(Check.DESK, 0);
        x.point(Check.MERGE, 0);
        x.point(Check.CHUTE, 0);
        x.belt(2, 3, 1);
        x.belt(0, 2, 1);
        x.belt(1, 2, 1);
        x.flight(3, 0, 9);
        for (int i = 0; i < 6; i++) {
            x.bag(i % 2, 0, false);
        }
        int[] due = {0, 1, 2, 3, 4, 5};
        for (int bag : due) {
            Check.due("2t: at first the lowest, then in turn", Check.nextHeld(x, 2, 0), bag);
        }
    }

    private static void manyTicks() {
        BagHall x = new BagHall();
        x.point(Check.DESK, 0);
        x.point(Check.MERGE, 0);
        x.point(Check.MERGE, 0);
        x.point(Check.CHUTE, 0);
        x.belt(0, 1, 1);
        x.belt(1, 2, 1);
        x.belt(2, 1, 1);
        x.flight(3, 0, 9);
        for (int i = 0; i < 490; i++) {
            x.tick(100);
        }
        x.bag(0, 0, false);
        Check.due("16: THE TICK", x.tick(100), 49100);
        Check.due("15: a late tick", x.step(0, 0, true), 49000);
        Check.due("15: its point", x.step(0, 0, false), 0);
        Check.due("15: the last kept", x.step(0, 29, true), 49057);
        Check.due("15: its point", x.step(0, 29, false), 1);
        Check.due("13: came at", x.detail(0), 49099);
    }
}
