/** Promises 1 to 7: a new object, point, belt, as, turns, flight, fall. */
public final class HallCallsTest {
    public static void main(String[] args) {
        newObject();
        pointKindsAndValues();
        pointFull();
        beltFindings();
        beltFindingsInOrder();
        beltFull();
        asKind();
        turnsFindings();
        turnsStayAndAreLimited();
        turnsOfAnotherInletLeaveThoseAtHand();
        flightFindings();
        flightFull();
        fallAndMend();
        Check.end();
    }

    private static void newObject() {
        BagHall x = new BagHall();
        for (int what = 0; what <= 14; what++) {
            Check.due("1: count(" + what + ")", x.count(what), 0);
        }
        Check.due("1: no point", x.as(0, 0), Check.BEYOND);
        Check.due("1: no belt", x.fall(0, true), Check.BEYOND);
        Check.due("1: no flight", x.flown(0, 0), Check.BEYOND);
        Check.due("1: no bag", x.where(0), Check.BEYOND);
        Check.due("1: nothing kept", x.back(), Check.NONE);
        Check.due("1: five findings", x.count(14), 5);
        Check.due("1: another object has its own", new BagHall().count(14), 0);
    }

    private static void pointKindsAndValues() {
        BagHall x = new BagHall();
        Check.due("2: kind -1", x.point(-1, 1), Check.BEYOND);
        Check.due("2: kind 6", x.point(6, 1), Check.BEYOND);
        Check.due("2: least kind", x.point(Integer.MIN_VALUE, 1), Check.BEYOND);
        Check.due("2: SCREEN 0", x.point(Check.SCREEN, 0), Check.BEYOND);
        Check.due("2: SCREEN 10", x.point(Check.SCREEN, 10), Check.BEYOND);
        Check.due("2: STORE 0", x.point(Check.STORE, 0), Check.BEYOND);
        Check.due("2: STORE 21", x.point(Check.STORE, 21), Check.BEYOND);
        Check.due("2: STORE -1", x.point(Check.STORE, -1), Check.BEYOND);
        Check.due("2: none was made", x.count(9), 0);
        Check.due("2: DESK, v not looked at", x.point(Check.DESK, Integer.MIN_VALUE), 0);
        Check.due("2: MERGE, v not looked at", x.point(Check.MERGE, -1), 1);
        Check.due("2: SORTER, v not looked at", x.point(Check.SORTER, 99), 2);
        Check.due("2: CHUTE, v not looked at", x.point(Check.CHUTE, Integer.MAX_VALUE), 3);
        Check.due("2: SCREEN 1", x.point(Check.SCREEN, 1), 4);
        Check.due("2: SCREEN 9", x.point(Check.SCREEN, 9), 5);
        Check.due("2: STORE 1", x.point(Check.STORE, 1), 6);
        Check.due("2: STORE 20", x.point(Check.STORE, 20), 7);
        Check.due("2: eight points", x.count(9), 8);
        Check.due("2: kind of 4", x.as(4, Check.SCREEN), 4);
    }

    private static void pointFull() {
        BagHall x = new BagHall();
        for (int i = 0; i < 12; i++) {
            Check.due("2: point " + i, x.point(i % 2 == 0 ? Check.DESK : Check.CHUTE, 0), i);
        }
        Check.due("2: the 13th", x.point(Check.DESK, 0), Check.FULL);
        Check.due("2: BEYOND is asked first", x.point(6, 0), Check.BEYOND);
        Check.due("2: BEYOND of v is asked first", x.point(Check.SCREEN, 0), Check.BEYOND);
        Check.due("2: still 12", x.count(9), 12);
    }

    private static BagHall oneOfEach() {
        BagHall x = new BagHall();
        x.point(Check.DESK, 0);
        x.point(Check.MERGE, 0);
        x.point(Check.SCREEN, 1);
        x.point(Check.SORTER, 0);
        x.point(Check.STORE, 1);
        x.point(Check.CHUTE, 0);
        return x;
    }

    private static void beltFindings() {
        BagHall x = oneOfEach();
        Check.due("3: from -1", x.belt(-1, 1, 1), Check.BEYOND);
        Check.due("3: from 6", x.belt(6, 1, 1), Check.BEYOND);
        Check.due("3: to -1", x.belt(0, -1, 1), Check.BEYOND);
        Check.due("3: to 6", x.belt(0, 6, 1), Check.BEYOND);
        Check.due("3: to the greatest", x.belt(0, Integer.MAX_VALUE, 1), Check.BEYOND);
        Check.due("3: 0 cells", x.belt(0, 1, 0), Check.BEYOND);
        Check.due("3: 13 cells", x.belt(0, 1, 13), Check.BEYOND);
        Check.due("3: least cells", x.belt(0, 1, Integer.MIN_VALUE), Check.BEYOND);
        Check.due("3: same", x.belt(1, 1, 1), Check.SAME);
        Check.due("3: from a CHUTE", x.belt(5, 1, 1), Check.KIND);
        Check.due("3: to a DESK", x.belt(1, 0, 1), Check.KIND);
        Check.due("3: none was made", x.count(10), 0);
        for (int from = 0; from < 5; from++) {
            Check.due("3: " + from + " to CHUTE", x.belt(from, 5, 1 + from), from);
        }
        for (int to = 1; to < 6; to++) {
            Check.due("3: DESK to " + to, x.belt(0, to, 12), 4 + to);
        }
        Check.due("3: ten belts", x.count(10), 10);
        Check.due("3: empty at first", x.cell(9, 0), Check.NONE);
        Check.due("3: its last cell", x.cell(9, 11), Check.NONE);
        Check.due("3: none FALLEN at first", x.count(12), 0);
        Check.due("3: TURNS are 1 at first", x.turns(5, 1), 1);
    }

    private static void beltFindingsInOrder() {
        BagHall x = oneOfEach();
        Check.due("3: BEYOND before SAME", x.belt(1, 1, 0), Check.BEYOND);
        Check.due("3: BEYOND before KIND", x.belt(5, 1, 13), Check.BEYOND);
        Check.due("3: SAME before KIND, CHUTE", x.belt(5, 5, 1), Check.SAME);
        Check.due("3: SAME before KIND, DESK", x.belt(0, 0, 1), Check.SAME);
    }

    private static void beltFull() {
        BagHall x = oneOfEach();
        for (int i = 0; i < 16; i++) {
            Check.due("3: belt " + i, x.belt(1, 2, 3), i);
        }
        Check.due("3: the 17th", x.belt(1, 2, 3), Check.FULL);
        Check.due("3: BEYOND before FULL", x.belt(1, 2, 0), Check.BEYOND);
        Check.due("3: SAME before FULL", x.belt(1, 1, 1), Check.SAME);
        Check.due("3: KIND before FULL", x.belt(1, 0, 1), Check.KIND);
        Check.due("3: still 16", x.count(10), 16);
    }

    private static void asKind() {
        BagHall x = oneOfEach();
        for (int kind = 0; kind < 6; kind++) {
            for (int point = 0; point < 6; point++) {
                int want = point == kind ? point : Check.KIND;
                Check.due("4: as(" + point + ", " + kind + ")", x.as(point, kind), want);
            }
        }
        Check.due("4: point -1", x.as(-1, 0), Check.BEYOND);
        Check.due("4: point 6", x.as(6, 0), Check.BEYOND);
        Check.due("4: kind -1", x.as(0, -1), Check.BEYOND);
        Check.due("4: kind 6", x.as(0, 6), Check.BEYOND);
    }

    private static void turnsFindings() {
        BagHall x = oneOfEach();
        x.belt(0, 1, 1);
        x.belt(1, 2, 1);
        Check.due("5: belt -1", x.turns(-1, 1), Check.BEYOND);
        Check.due("5: belt 2", x.turns(2, 1), Check.BEYOND);
        Check.due("5: v -1", x.turns(0, -1), Check.BEYOND);
        Check.due("5: v 10", x.turns(0, 10), Check.BEYOND);
        Check.due("5: to no MERGE", x.turns(1, 1), Check.KIND);
        Check.due("5: BEYOND before KIND", x.turns(1, 10), Check.BEYOND);
        Check.due("5: they were 1", x.turns(0, 0), 1);
        Check.due("5: they were 0", x.turns(0, 9), 0);
        Check.due("5: they were 9", x.turns(0, 9), 9);
    }

    /** Two desks with full belts of one cell to a merge, and a way out of it. */
    private static BagHall twoDesksOneMerge() {
        BagHall x = new BagHall();
        x.point(Check.DESK, 0);
        x.point(Check.DESK, 0);
        x.point(Check.MERGE, 0);
        x.point(Check.CHUTE, 0);
        x.belt(0, 2, 1);
        x.belt(1, 2, 1);
        x.belt(2, 3, 1);
        x.flight(3, 0, 5000);
        for (int i = 0; i < 10; i++) {
            x.bag(0, 0, false);
        }
        for (int i = 0; i < 10; i++) {
            x.bag(1, 0, false);
        }
        return x;
    }

    /** From which desk the merge takes its next bags, as a number with a digit for each. */
    private static int nextDesks(BagHall x, int takes) {
        int digits = 0;
        for (int i = 0; i < takes; i++) {
            digits = digits * 10 + (Check.nextHeld(x, 2, 2) < 10 ? 1 : 2);
        }
        return digits;
    }

    private static void turnsStayAndAreLimited() {
        BagHall x = twoDesksOneMerge();
        Check.due("5: one each", nextDesks(x, 4), 1212);
        x = twoDesksOneMerge();
        x.turns(0, 3);
        Check.due("5: set ahead, three and one", nextDesks(x, 5), 11121);
        x.turns(0, 1);
        Check.due("5: two left become one", nextDesks(x, 4), 1212);
        x = twoDesksOneMerge();
        Check.due("5: the first", nextDesks(x, 1), 1);
        x.turns(0, 5);
        Check.due("5: more TURNS are not more left now", nextDesks(x, 7), 2111112);
        x = twoDesksOneMerge();
        x.turns(0, 4);
        Check.due("5: one of four", nextDesks(x, 1), 1);
        x.turns(0, 0);
        Check.due("5: none left", nextDesks(x, 3), 222);
        x.turns(0, 2);
        Check.due("5: back again", nextDesks(x, 4), 1121);
    }

    private static void turnsOfAnotherInletLeaveThoseAtHand() {
        BagHall x = twoDesksOneMerge();
        x.turns(0, 3);
        Check.due("5: one of three", nextDesks(x, 1), 1);
        x.turns(1, 0);
        x.turns(1, 2);
        Check.due("5: two are still left", nextDesks(x, 5), 11221);
    }

    private static void flightFindings() {
        BagHall x = oneOfEach();
        Check.due("6: point -1", x.flight(-1, 0, 0), Check.BEYOND);
        Check.due("6: point 6", x.flight(6, 0, 0), Check.BEYOND);
        Check.due("6: opening -1", x.flight(5, -1, 0), Check.BEYOND);
        Check.due("6: close -1", x.flight(5, 0, -1), Check.BEYOND);
        Check.due("6: close 5001", x.flight(5, 0, 5001), Check.BEYOND);
        Check.due("6: both 5001", x.flight(5, 5001, 5001), Check.BEYOND);
        Check.due("6: opening above close", x.flight(5, 4, 3), Check.BEYOND);
        for (int point = 0; point < 5; point++) {
            Check.due("6: " + point + " is no CHUTE", x.flight(point, 0, 0), Check.KIND);
        }
        Check.due("6: BEYOND before KIND", x.flight(0, 4, 3), Check.BEYOND);
        Check.due("6: none was made", x.count(11), 0);
        Check.due("6: least", x.flight(5, 0, 0), 0);
        Check.due("6: most", x.flight(5, 5000, 5000), 1);
        Check.due("6: widest", x.flight(5, 0, 5000), 2);
        Check.due("6: three flights", x.count(11), 3);
    }

    private static void flightFull() {
        BagHall x = oneOfEach();
        for (int i = 0; i < 8; i++) {
            Check.due("6: flight " + i, x.flight(5, i, 10), i);
        }
        Check.due("6: the ninth", x.flight(5, 0, 0), Check.FULL);
        Check.due("6: BEYOND before FULL", x.flight(5, 1, 0), Check.BEYOND);
        Check.due("6: KIND before FULL", x.flight(0, 0, 0), Check.KIND);
        Check.due("6: still 8", x.count(11), 8);
    }

    private static void fallAndMend() {
        BagHall x = oneOfEach();
        x.belt(0, 1, 1);
        x.belt(1, 5, 1);
        Check.due("7: belt -1", x.fall(-1, true), Check.BEYOND);
        Check.due("7: belt 2", x.fall(2, false), Check.BEYOND);
        Check.due("7: it was sound", x.fall(0, false), 0);
        Check.due("7: falls", x.fall(0, true), 1);
        Check.due("7: lies", x.fall(0, true), 0);
        Check.due("7: the other", x.fall(1, true), 1);
        Check.due("7: two lie", x.count(12), 2);
        Check.due("7: mended", x.fall(0, false), 1);
        Check.due("7: is mended", x.fall(0, false), 0);
        Check.due("7: one lies", x.count(12), 1);
    }
}
