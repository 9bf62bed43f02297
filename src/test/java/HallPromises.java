/** The sentences of promises 1 to 7: a new object, point, belt, as, turns, flight, fall. */
final class HallPromises {
    private HallPromises() {
    }

    static void addTo(Sentences s) {
        s.promise(1, "No points, no belts, no flights, no bags; THE TICK is 0.", HallPromises::aNewObjectIsEmpty);

        s.promise(2, "A new point: its number.", HallPromises::pointTellsItsNumber);
        s.promise(2, "BEYOND: kind is not 0 to 5,", HallPromises::pointOfNoKind);
        s.promise(2, "or v is not as told (of SCREEN and STORE; not looked at of others).", HallPromises::pointOfWrongValue);
        s.promise(2, "FULL: there are 12.", HallPromises::pointFull);

        s.promise(3, "A new belt, empty: its number.", HallPromises::beltIsEmpty);
        s.promise(3, "BEYOND: no such point (either),", HallPromises::beltOfNoPoint);
        s.promise(3, "or cells is not 1 to 12.", HallPromises::beltOfWrongCells);
        s.promise(3, "SAME: both points are one.", HallPromises::beltToTheSame);
        s.promise(3, "KIND: it would lead from a CHUTE, or to a DESK.", HallPromises::beltOfWrongKinds);
        s.promise(3, "FULL: there are 16.", HallPromises::beltFull);

        s.promise(4, "A point as one of a kind: its number.", HallPromises::asTellsTheNumber);
        s.promise(4, "BEYOND: no such point, or kind.", HallPromises::asBeyond);
        s.promise(4, "KIND: it is of another kind.", HallPromises::asOfAnotherKind);

        s.promise(5, "TURNS of an INLET (a belt that leads to a MERGE) become v: what they were.",
            HallPromises::turnsTellWhatTheyWere);
        s.promise(5, "BEYOND: no such belt, or v is not 0 to 9.", HallPromises::turnsBeyond);
        s.promise(5, "KIND: it leads to no MERGE.", HallPromises::turnsOfNoMerge);
        s.promise(5, "(Whose turn it is stays; turns left are at most v then.)", HallPromises::turnsLeftAreLimited);

        s.promise(6, "A new flight: its number.", HallPromises::flightTellsItsNumber);
        s.promise(6, "BEYOND: no such point, or a tick is not as told.", HallPromises::flightBeyond);
        s.promise(6, "KIND: it is no CHUTE.", HallPromises::flightOfNoChute);
        s.promise(6, "FULL: there are 8.", HallPromises::flightFull);

        s.promise(7, "A belt is FALLEN (or on false: mended): 1 if that is new, else 0.", HallPromises::fallTellsWhatIsNew);
        s.promise(7, "BEYOND.", HallPromises::fallBeyond);
    }

    private static void aNewObjectIsEmpty() {
        BagHall x = new BagHall();
        for (int what = 0; what <= 14; what++) {
            Check.due("count(" + what + ")", x.count(what), 0);
        }
        for (int i = 0; i < 12; i++) {
            Check.due("no point " + i, x.as(i, 0), Check.BEYOND);
            Check.due("no belt " + i, x.fall(i, true), Check.BEYOND);
            Check.due("no flight " + i, x.flown(i, 0), Check.BEYOND);
            Check.due("no bag " + i, x.where(i), Check.BEYOND);
            Check.due("none to hold bags " + i, x.list(i, -1), Check.BEYOND);
        }
        Check.due("its ticks go", x.tick(100), 100);
        BagHall other = new BagHall();
        other.point(Check.DESK, 0);
        Check.due("another object has its own points", x.count(9), 0);
        Check.due("and its own ticks", other.count(13), 0);
        Check.due("and its own findings", other.count(14), 0);
    }

    private static void pointTellsItsNumber() {
        BagHall x = new BagHall();
        for (int i = 0; i < 12; i++) {
            Check.due("the next number", x.point(i % 6, 1), i);
            Check.due("a point of its kind", x.as(i, i % 6), i);
            Check.due("so many points", x.count(9), i + 1);
        }
        BagHall y = Halls.oneOfEach();
        Check.due("a new SORTER holds none", y.holds(3), Check.NONE);
        Check.due("a new DESK has none", y.list(0, -1), 0);
        Check.due("a new STORE has none", y.list(4, -1), 0);
    }

    private static void pointOfNoKind() {
        BagHall x = new BagHall();
        for (int kind : Halls.outside(0, 5)) {
            Check.due("kind " + kind, x.point(kind, 1), Check.BEYOND);
        }
        Check.due("none was made", x.count(9), 0);
        Check.due("kind 0", x.point(0, 1), 0);
        Check.due("kind 5", x.point(5, 1), 1);
    }

    private static void pointOfWrongValue() {
        BagHall x = new BagHall();
        for (int v : Halls.outside(1, 9)) {
            Check.due("a SCREEN of " + v, x.point(Check.SCREEN, v), Check.BEYOND);
        }
        for (int v : Halls.outside(1, 20)) {
            Check.due("a STORE of " + v, x.point(Check.STORE, v), Check.BEYOND);
        }
        Check.due("none was made", x.count(9), 0);
        int[][] right = {{Check.SCREEN, 1}, {Check.SCREEN, 9}, {Check.STORE, 1}, {Check.STORE, 20}, {Check.STORE, 10}};
        for (int i = 0; i < right.length; i++) {
            Check.due("kind " + right[i][0] + " of " + right[i][1], x.point(right[i][0], right[i][1]), i);
        }
        int[] others = {Check.DESK, Check.MERGE, Check.SORTER, Check.CHUTE};
        for (int kind : others) {
            BagHall y = new BagHall();
            int[] values = {Integer.MIN_VALUE, -1, 0, 1, 9, 10, 20, 21, 5001, Integer.MAX_VALUE};
            for (int i = 0; i < values.length; i++) {
                Check.due("kind " + kind + ", v " + values[i] + " is not looked at", y.point(kind, values[i]), i);
            }
        }
    }

    private static void pointFull() {
        BagHall x = new BagHall();
        for (int i = 0; i < 11; i++) {
            x.point(Check.MERGE, 0);
        }
        Check.due("the 12th", x.point(Check.CHUTE, 0), 11);
        for (int kind = 0; kind <= 5; kind++) {
            Check.due("the 13th, kind " + kind, x.point(kind, 1), Check.FULL);
        }
        Check.due("there are 12", x.count(9), 12);
        Check.due("the last one is as it was", x.as(11, Check.CHUTE), 11);
        Check.due("no point 12", x.as(12, Check.MERGE), Check.BEYOND);
    }

    private static void beltIsEmpty() {
        BagHall x = Halls.oneOfEach();
        for (int i = 0; i < 16; i++) {
            int cells = 1 + i % 12;
            Check.due("the next number", x.belt(0, 5, cells), i);
            Check.due("so many belts", x.count(10), i + 1);
            for (int cell = 0; cell < cells; cell++) {
                Check.due("cell " + cell + " is free", x.cell(i, cell), Check.NONE);
            }
            Check.due("it has no more cells", x.cell(i, cells), Check.BEYOND);
        }
        Check.due("no bag is on one", x.count(1), 0);
    }

    private static void beltOfNoPoint() {
        BagHall x = Halls.oneOfEach();
        for (int p : Halls.outside(0, 5)) {
            Check.due("from " + p, x.belt(p, 1, 1), Check.BEYOND);
            Check.due("to " + p, x.belt(0, p, 1), Check.BEYOND);
            Check.due("from and to " + p, x.belt(p, p, 1), Check.BEYOND);
        }
        Check.due("none was made", x.count(10), 0);
        BagHall empty = new BagHall();
        Check.due("without points", empty.belt(0, 1, 1), Check.BEYOND);
        BagHall one = Halls.of(Check.MERGE, 0);
        Check.due("with one point", one.belt(0, 1, 1), Check.BEYOND);
    }

    private static void beltOfWrongCells() {
        BagHall x = Halls.oneOfEach();
        for (int cells : Halls.outside(1, 12)) {
            Check.due("cells " + cells, x.belt(0, 1, cells), Check.BEYOND);
        }
        Check.due("none was made", x.count(10), 0);
        Check.due("1 cell", x.belt(0, 1, 1), 0);
        Check.due("12 cells", x.belt(0, 1, 12), 1);
    }

    private static void beltToTheSame() {
        BagHall x = Halls.oneOfEach();
        for (int p = 0; p < 6; p++) {
            Check.due("from " + p + " to itself", x.belt(p, p, 1), Check.SAME);
        }
        Check.due("none was made", x.count(10), 0);
        Check.due("to another one of the kind", x.point(Check.MERGE, 0), 6);
        Check.due("from MERGE to MERGE", x.belt(1, 6, 1), 0);
        Check.due("and back", x.belt(6, 1, 1), 1);
        Check.due("once more between the two", x.belt(1, 6, 1), 2);
    }

    private static void beltOfWrongKinds() {
        BagHall x = Halls.oneOfEach();
        int desk = x.point(Check.DESK, 0);
        int chute = x.point(Check.CHUTE, 0);
        int made = 0;
        for (int from = 0; from < 6; from++) {
            Check.due("from " + from + " to a DESK", x.belt(from, desk, 1), Check.KIND);
            boolean leads = from != Check.CHUTE;
            Check.due("from " + from + " to a CHUTE", x.belt(from, chute, 1), leads ? made : Check.KIND);
            made += leads ? 1 : 0;
        }
        for (int to = 0; to < 6; to++) {
            Check.due("from a CHUTE to " + to, x.belt(chute, to, 1), Check.KIND);
            boolean leads = to != Check.DESK;
            Check.due("from a DESK to " + to, x.belt(desk, to, 1), leads ? made : Check.KIND);
            made += leads ? 1 : 0;
        }
        Check.due("so many were made", x.count(10), made);
    }

    private static void beltFull() {
        BagHall x = Halls.oneOfEach();
        for (int i = 0; i < 15; i++) {
            x.belt(1, 2, 3);
        }
        Check.due("the 16th", x.belt(2, 1, 4), 15);
        Check.due("the 17th", x.belt(1, 2, 3), Check.FULL);
        Check.due("another 17th", x.belt(0, 5, 12), Check.FULL);
        Check.due("there are 16", x.count(10), 16);
        Check.due("no belt 16", x.cell(16, 0), Check.BEYOND);
        Check.due("the last one is as it was", x.cell(15, 3), Check.NONE);
    }

    private static void asTellsTheNumber() {
        BagHall x = new BagHall();
        for (int i = 0; i < 12; i++) {
            x.point(5 - i % 6, 1);
        }
        for (int i = 0; i < 12; i++) {
            Check.due("point " + i, x.as(i, 5 - i % 6), i);
        }
        Check.due("no finding", x.count(14), 0);
    }

    private static void asBeyond() {
        BagHall x = Halls.oneOfEach();
        for (int no : Halls.outside(0, 5)) {
            Check.due("point " + no, x.as(no, 0), Check.BEYOND);
            Check.due("kind " + no, x.as(0, no), Check.BEYOND);
            Check.due("both " + no, x.as(no, no), Check.BEYOND);
        }
        Check.due("without points", new BagHall().as(0, 0), Check.BEYOND);
    }

    private static void asOfAnotherKind() {
        BagHall x = Halls.oneOfEach();
        int findings = 0;
        for (int point = 0; point < 6; point++) {
            for (int kind = 0; kind < 6; kind++) {
                if (point != kind) {
                    Check.due("point " + point + " as " + kind, x.as(point, kind), Check.KIND);
                    findings++;
                }
            }
        }
        Check.due("each is a finding", x.count(14), findings);
    }

    private static void turnsTellWhatTheyWere() {
        BagHall x = Halls.oneOfEach();
        Halls.belts(x, 0, 1, 1, 2, 1, 12);
        int[] was = {1, 1};
        for (int v = 0; v <= 9; v++) {
            for (int belt = 0; belt < 2; belt++) {
                int next = belt == 0 ? v : 9 - v;
                Check.due("belt " + belt + " to " + next, x.turns(belt, next), was[belt]);
                was[belt] = next;
            }
        }
        Check.due("to what they are", x.turns(0, 9), 9);
        Check.due("and again", x.turns(0, 9), 9);
        Check.due("no finding, though 0 was told", x.count(14), 0);
    }

    private static void turnsBeyond() {
        BagHall x = Halls.oneOfEach();
        Check.due("without belts", x.turns(0, 1), Check.BEYOND);
        x.belt(0, 1, 1);
        for (int belt : Halls.outside(0, 0)) {
            Check.due("belt " + belt, x.turns(belt, 1), Check.BEYOND);
        }
        for (int v : Halls.outside(0, 9)) {
            Check.due("v " + v, x.turns(0, v), Check.BEYOND);
        }
        Check.due("they are as they were", x.turns(0, 1), 1);
    }

    private static void turnsOfNoMerge() {
        BagHall x = Halls.oneOfEach();
        Halls.belts(x, 0, 2, 1, 0, 3, 1, 0, 4, 1, 0, 5, 1, 1, 5, 1, 1, 2, 1);
        for (int belt = 0; belt < 6; belt++) {
            Check.due("belt " + belt, x.turns(belt, 1), Check.KIND);
            Check.due("belt " + belt + ", v 0", x.turns(belt, 0), Check.KIND);
        }
        Check.due("a belt that leads to a MERGE", x.belt(0, 1, 1), 6);
        Check.due("its TURNS", x.turns(6, 9), 1);
    }

    /** MERGE 2 with INLETS 0 and 1 of one cell, OUTLET 2; bags 0 to 19 at desk 0, 20 to 39 at desk 1. */
    private static BagHall merge(int first, int second) {
        BagHall x = Halls.of(Check.DESK, 0, Check.DESK, 0, Check.MERGE, 0, Check.CHUTE, 0);
        Halls.belts(x, 0, 2, 1, 1, 2, 1, 2, 3, 1);
        x.flight(3, 0, 5000);
        Halls.bags(x, 0, 0, 20);
        Halls.bags(x, 1, 0, 20);
        x.turns(0, first);
        x.turns(1, second);
        return x;
    }

    /** From which INLETS the MERGE takes its next bags, a digit each, 1 or 2. */
    private static int nextInlets(BagHall x, int takes) {
        int digits = 0;
        for (int i = 0; i < takes; i++) {
            int bag = Check.nextHeld(x, 2, 2);
            digits = digits * 10 + (bag < 0 ? 0 : 1 + bag / 20);
        }
        return digits;
    }

    private static void turnsLeftAreLimited() {
        BagHall x = merge(5, 1);
        Check.due("one of five", nextInlets(x, 1), 1);
        x.turns(0, 2);
        Check.due("four left become two", nextInlets(x, 4), 1121);
        x = merge(5, 1);
        Check.due("three of five", nextInlets(x, 3), 111);
        x.turns(0, 3);
        Check.due("two left stay two", nextInlets(x, 4), 1121);
        x = merge(1, 1);
        Check.due("one of one", nextInlets(x, 1), 1);
        x.turns(0, 9);
        Check.due("more TURNS are not more left", nextInlets(x, 3), 211);
        x = merge(4, 2);
        Check.due("one of four", nextInlets(x, 1), 1);
        x.turns(0, 0);
        Check.due("none left: the other's turn", nextInlets(x, 3), 222);
        x = merge(4, 2);
        Check.due("one of four", nextInlets(x, 1), 1);
        x.turns(0, 0);
        x.turns(0, 4);
        Check.due("at most 0 were left, and stay so", nextInlets(x, 3), 221);
        x = merge(3, 2);
        Check.due("one of three", nextInlets(x, 1), 1);
        x.turns(1, 0);
        x.turns(1, 1);
        Check.due("whose turn it is stays: two are left of the first", nextInlets(x, 4), 1121);
    }

    private static void flightTellsItsNumber() {
        BagHall x = Halls.oneOfEach();
        for (int i = 0; i < 8; i++) {
            Check.due("the next number", x.flight(5, i, 2 * i), i);
            Check.due("so many flights", x.count(11), i + 1);
            Check.due("no bags yet", x.flown(i, 6), 0);
        }
    }

    private static void flightBeyond() {
        BagHall x = Halls.oneOfEach();
        for (int p : Halls.outside(0, 5)) {
            Check.due("point " + p, x.flight(p, 0, 1), Check.BEYOND);
        }
        for (int tick : Halls.outside(0, 5000)) {
            Check.due("OPENING " + tick, x.flight(5, tick, 5000), Check.BEYOND);
            Check.due("CLOSE " + tick, x.flight(5, 0, tick), Check.BEYOND);
            Check.due("both " + tick, x.flight(5, tick, tick), Check.BEYOND);
        }
        Check.due("the first above the second", x.flight(5, 1, 0), Check.BEYOND);
        Check.due("the first above the second by one", x.flight(5, 5000, 4999), Check.BEYOND);
        Check.due("none was made", x.count(11), 0);
        Check.due("both are one", x.flight(5, 4999, 4999), 0);
        Check.due("without points", new BagHall().flight(0, 0, 0), Check.BEYOND);
    }

    private static void flightOfNoChute() {
        BagHall x = Halls.oneOfEach();
        for (int p = 0; p < 5; p++) {
            Check.due("point " + p, x.flight(p, 0, 5000), Check.KIND);
        }
        Check.due("none was made", x.count(11), 0);
        Check.due("of the CHUTE", x.flight(5, 0, 5000), 0);
    }

    private static void flightFull() {
        BagHall x = Halls.oneOfEach();
        for (int i = 0; i < 7; i++) {
            x.flight(5, 0, 0);
        }
        Check.due("the eighth", x.flight(5, 3, 4), 7);
        Check.due("the ninth", x.flight(5, 0, 0), Check.FULL);
        Check.due("there are 8", x.count(11), 8);
        Check.due("the last one is as it was", x.flown(7, 2), 4);
        Check.due("no flight 8", x.flown(8, 2), Check.BEYOND);
    }

    private static void fallTellsWhatIsNew() {
        BagHall x = Halls.oneOfEach();
        Halls.belts(x, 0, 1, 1, 1, 5, 1);
        Check.due("mended, though it was sound", x.fall(0, false), 0);
        Check.due("FALLEN is new", x.fall(0, true), 1);
        Check.due("FALLEN is not new", x.fall(0, true), 0);
        Check.due("one is", x.count(12), 1);
        Check.due("the other one is new", x.fall(1, true), 1);
        Check.due("two are", x.count(12), 2);
        Check.due("mended is new", x.fall(0, false), 1);
        Check.due("mended is not new", x.fall(0, false), 0);
        Check.due("the other one stays", x.count(12), 1);
        Check.due("FALLEN once more", x.fall(0, true), 1);
        Check.due("no finding", x.count(14), 0);
    }

    private static void fallBeyond() {
        BagHall x = Halls.oneOfEach();
        Check.due("without belts", x.fall(0, true), Check.BEYOND);
        Halls.belts(x, 0, 1, 1, 1, 5, 1);
        for (int belt : Halls.outside(0, 1)) {
            Check.due("belt " + belt + " falls", x.fall(belt, true), Check.BEYOND);
            Check.due("belt " + belt + " is mended", x.fall(belt, false), Check.BEYOND);
        }
        Check.due("none is FALLEN", x.count(12), 0);
    }
}
