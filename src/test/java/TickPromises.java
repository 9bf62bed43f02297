/** The sentences of promises 16 to 25: tick, cell, holds, list, far, route, flown, count, keep, back. */
final class TickPromises {
    private TickPromises() {
    }

    static void addTo(Sentences s) {
        s.promise(16, "n TICKS go: THE TICK.", TickPromises::soManyTicksGo);
        s.promise(16, "BEYOND: n is not 1 to 100.", TickPromises::tickBeyond);

        s.promise(17, "The bag in a cell.", TickPromises::cellTellsTheBag);
        s.promise(17, "BEYOND: no such belt, or cell.", TickPromises::cellBeyond);
        s.promise(17, "NONE: it is free.", TickPromises::cellFree);

        s.promise(18, "The bag that a MERGE, SCREEN or SORTER holds.", TickPromises::holdsTellsTheBag);
        s.promise(18, "BEYOND.", TickPromises::holdsBeyond);
        s.promise(18, "KIND: it is of another kind.", TickPromises::holdsOfAnotherKind);
        s.promise(18, "NONE: it holds none.", TickPromises::holdsNone);

        s.promise(19, "Bag i of those that wait at a DESK (the first to go is 0),", TickPromises::listOfADesk);
        s.promise(19, "or lie in a STORE (by coming, as told);", TickPromises::listOfAStore);
        s.promise(19, "i = -1: how many.", TickPromises::listHowMany);
        s.promise(19, "BEYOND: no such point.", TickPromises::listBeyond);
        s.promise(19, "KIND: it is neither.", TickPromises::listOfNeither);
        s.promise(19, "NONE: there is none such.", TickPromises::listNone);

        s.promise(20, "FAR of a point to a CHUTE.", TickPromises::farOfAPoint);
        s.promise(20, "BEYOND: no such point (either).", TickPromises::farBeyond);
        s.promise(20, "KIND: the other one is no CHUTE.", TickPromises::farToNoChute);
        s.promise(20, "NONE: no way leads there.", TickPromises::farWithoutAWay);

        s.promise(21, "The OUTLET by which a SORTER would send a bag of a flight now (its cell 0 free or not).",
            TickPromises::routeNow);
        s.promise(21, "BEYOND: no such point, or flight.", TickPromises::routeBeyond);
        s.promise(21, "KIND: it is no SORTER.", TickPromises::routeOfNoSorter);
        s.promise(21, "NONE: there is no way.", TickPromises::routeWithoutAWay);

        s.promise(22, "Of a flight: 0 its CHUTE, 1 OPENING, 2 CLOSE, 3 its bags that are LOADED, 4 LATE, 5 ASTRAY,"
            + " 6 its bags in all.", TickPromises::flownOfAFlight);
        s.promise(22, "BEYOND: no such flight, or another what.", TickPromises::flownBeyond);

        s.promise(23, "How many bags are, by where() 0 to 7; 8 all;", TickPromises::countOfBags);
        s.promise(23, "9 points, 10 belts, 11 flights, 12 belts that are FALLEN, 13 THE TICK,", TickPromises::countOfTheHall);
        s.promise(23, "14 how many acts answered a finding ever (this one, too, if it does; it goes on with back()).",
            TickPromises::countOfFindings);
        s.promise(23, "BEYOND: another what.", TickPromises::countBeyond);

        s.promise(24, "All is kept in place of what was: THE TICK.", TickPromises::keepInPlaceOfWhatWas);

        s.promise(25, "All is as it was kept (which stays): THE TICK.", TickPromises::backToWhatStays);
        s.promise(25, "NONE: nothing is kept.", TickPromises::backToNothing);
    }

    private static void soManyTicksGo() {
        BagHall x = new BagHall();
        Check.due("1", x.tick(1), 1);
        Check.due("100", x.tick(100), 101);
        Check.due("99", x.tick(99), 200);
        Check.due("2", x.tick(2), 202);
        Check.due("THE TICK", x.count(13), 202);
        int[] parts = {1, 2, 3, 10, 30};
        for (int part : parts) {
            Snapshot.Recipe byParts = () -> {
                BagHall y = Halls.fullAndBusy();
                for (int i = 0; i < 30; i += part) {
                    y.tick(part);
                }
                return y;
            };
            Check.holds("30 as " + 30 / part + " times " + part, Snapshot.of(byParts).equals(Snapshot.of(() -> {
                BagHall y = Halls.fullAndBusy();
                y.tick(30);
                return y;
            })));
        }
    }

    private static void tickBeyond() {
        BagHall x = Halls.line(1, 0, 99);
        x.bag(0, 0, false);
        for (int n : Halls.outside(1, 100)) {
            Check.due("n " + n, x.tick(n), Check.BEYOND);
        }
        Check.due("no TICK went", x.count(13), 0);
        Check.due("the bag waits", x.where(0), 0);
        Check.due("1 is the least", x.tick(1), 1);
        Check.due("100 is the most", x.tick(100), 101);
    }

    /** A belt of so many cells, full of bags 1, 2, .. from its last cell back; the sorter behind it holds bag 0. */
    private static BagHall fullBelt(int cells) {
        BagHall x = Halls.of(Check.DESK, 0, Check.SORTER, 0, Check.CHUTE, 0);
        x.belt(0, 1, cells);
        x.flight(2, 0, 99);
        Halls.bags(x, 0, 0, cells + 1);
        x.tick(60);
        return x;
    }

    private static void cellTellsTheBag() {
        for (int cells = 1; cells <= 12; cells++) {
            BagHall x = fullBelt(cells);
            for (int cell = 0; cell < cells; cell++) {
                Check.due("cell " + cell + " of " + cells, x.cell(0, cell), cells - cell);
            }
        }
        BagHall y = Halls.of(Check.DESK, 0, Check.CHUTE, 0);
        for (int i = 0; i < 16; i++) {
            y.belt(0, 1, 1);
        }
        y.flight(1, 0, 99);
        y.bag(0, 0, false);
        for (int i = 0; i < 15; i++) {
            y.fall(i, true);
        }
        y.tick(1);
        Check.due("the highest belt, bag 0", y.cell(15, 0), 0);
    }

    private static void cellBeyond() {
        BagHall none = Halls.oneOfEach();
        Check.due("without belts", none.cell(0, 0), Check.BEYOND);
        for (int cells = 1; cells <= 12; cells++) {
            BagHall x = fullBelt(cells);
            for (int no : Halls.outside(0, 0)) {
                Check.due("belt " + no, x.cell(no, 0), Check.BEYOND);
            }
            for (int no : Halls.outside(0, cells - 1)) {
                Check.due("cell " + no + " of " + cells, x.cell(0, no), Check.BEYOND);
            }
        }
    }

    private static void cellFree() {
        BagHall x = Halls.line(12, 0, 99);
        for (int belt = 0; belt < 5; belt++) {
            for (int cell = 0; cell < 12; cell++) {
                Check.due("cell " + cell + " of belt " + belt, x.cell(belt, cell), Check.NONE);
            }
        }
        x.bag(0, 0, false);
        x.tick(2);
        Check.due("behind a bag", x.cell(0, 0), Check.NONE);
        Check.due("ahead of a bag", x.cell(0, 2), Check.NONE);
        Check.due("on another belt", x.cell(1, 1), Check.NONE);
        x.take(0);
        Check.due("a bag was taken from it", x.cell(0, 1), Check.NONE);
        BagHall y = Halls.line(1, 0, 99);
        y.bag(0, 0, false);
        y.tick(2);
        Check.due("a point took its bag", y.cell(0, 0), Check.NONE);
    }

    private static void holdsTellsTheBag() {
        for (int p = 1; p <= 3; p++) {
            BagHall x = Halls.line(1, 0, 99);
            Halls.bags(x, 0, 0, 2);
            x.fall(p, true);
            x.tick(30);
            Check.due("point " + p, x.holds(p), 0);
            x.take(0);
            x.tick(20);
            Check.due("point " + p + ", the next bag", x.holds(p), 1);
        }
    }

    private static void holdsBeyond() {
        Check.due("without points", new BagHall().holds(0), Check.BEYOND);
        BagHall x = Halls.oneOfEach();
        for (int no : Halls.outside(0, 5)) {
            Check.due("point " + no, x.holds(no), Check.BEYOND);
        }
    }

    private static void holdsOfAnotherKind() {
        BagHall x = Halls.line(1, 50, 99);
        Halls.bags(x, 0, 0, 2);
        x.tick(20);
        x.bag(0, 0, false);
        Check.due("a DESK, though a bag waits", x.holds(0), Check.KIND);
        Check.due("a STORE, though a bag lies there", x.holds(4), Check.KIND);
        Check.due("a CHUTE", x.holds(5), Check.KIND);
        BagHall y = Halls.oneOfEach();
        Check.due("a DESK without bags", y.holds(0), Check.KIND);
        Check.due("an empty STORE", y.holds(4), Check.KIND);
    }

    private static void holdsNone() {
        BagHall x = Halls.line(1, 0, 99);
        for (int p = 1; p <= 3; p++) {
            Check.due("at first, point " + p, x.holds(p), Check.NONE);
        }
        x.bag(0, 0, false);
        x.tick(3);
        Check.due("it gave its bag", x.holds(1), Check.NONE);
        x.tick(1);
        Check.due("the next one has it", x.holds(2), 0);
        x.take(0);
        Check.due("its bag was taken by hand", x.holds(2), Check.NONE);
    }

    private static void listOfADesk() {
        BagHall x = Halls.line(1, 0, 99);
        Halls.bags(x, 0, 0, 60);
        for (int i = 0; i < 60; i++) {
            Check.due("bag " + i, x.list(0, i), i);
        }
        for (int i = 0; i < 4; i++) {
            int first = x.list(0, 0);
            x.tick(i == 0 ? 1 : 2);
            Check.due("the first to go was 0 of the list", x.cell(0, 0), first);
            Check.due("now it is the next", x.list(0, 0), first + 1);
        }
        x.take(4);
        x.give(4, 0, false);
        Check.due("given again, it is the last", x.list(0, 55), 4);
        Check.due("5 is the first", x.list(0, 0), 5);
    }

    private static void listOfAStore() {
        BagHall x = Halls.of(Check.DESK, 0, Check.STORE, 20, Check.CHUTE, 0);
        Halls.belts(x, 0, 1, 1, 1, 2, 1);
        x.flight(2, 5000, 5000);
        Halls.bags(x, 0, 0, 20);
        x.take(0);
        x.give(0, 0, false);
        x.tick(60);
        for (int i = 0; i < 20; i++) {
            Check.due("by coming, " + i, x.list(1, i), i == 19 ? 0 : i + 1);
        }
        x.take(10);
        Check.due("the one ahead of the gap", x.list(1, 8), 9);
        Check.due("those behind it close up", x.list(1, 9), 11);
        Check.due("the last one", x.list(1, 18), 0);
        x.give(10, 0, false);
        x.tick(5);
        Check.due("the latest to come is the last", x.list(1, 19), 10);
    }

    private static void listHowMany() {
        BagHall x = Halls.of(Check.DESK, 0, Check.STORE, 20, Check.CHUTE, 0);
        x.flight(2, 0, 0);
        Check.due("none waits", x.list(0, -1), 0);
        Check.due("none lies there", x.list(1, -1), 0);
        for (int i = 0; i < 60; i++) {
            x.bag(0, 0, false);
            Check.due("so many wait", x.list(0, -1), i + 1);
        }
        x.belt(0, 1, 1);
        for (int i = 1; i <= 20; i++) {
            x.tick(2);
            Check.due("so many lie there", x.list(1, -1), i);
            Check.due("so many are left", x.list(0, -1), 60 - i);
        }
        x.tick(50);
        Check.due("full", x.list(1, -1), 20);
        Check.due("no finding", x.count(14), 0);
    }

    private static void listBeyond() {
        Check.due("without points", new BagHall().list(0, -1), Check.BEYOND);
        BagHall x = Halls.oneOfEach();
        for (int no : Halls.outside(0, 5)) {
            Check.due("point " + no + ", how many", x.list(no, -1), Check.BEYOND);
            Check.due("point " + no + ", the first", x.list(no, 0), Check.BEYOND);
        }
    }

    private static void listOfNeither() {
        BagHall x = Halls.line(1, 0, 99);
        Halls.bags(x, 0, 0, 3);
        x.tick(4);
        int[] neither = {1, 2, 3, 5};
        for (int p : neither) {
            Check.due("how many at " + p, x.list(p, -1), Check.KIND);
            Check.due("the first at " + p, x.list(p, 0), Check.KIND);
            Check.due("the least i at " + p, x.list(p, Integer.MIN_VALUE), Check.KIND);
        }
    }

    private static void listNone() {
        BagHall x = Halls.of(Check.DESK, 0, Check.STORE, 20, Check.CHUTE, 0);
        x.belt(0, 1, 1);
        x.flight(2, 0, 0);
        Check.due("none waits", x.list(0, 0), Check.NONE);
        Check.due("none lies there", x.list(1, 0), Check.NONE);
        Halls.bags(x, 0, 0, 5);
        x.tick(4);
        // Three wait, two lie in the store.
        for (int i : Halls.outside(0, 2)) {
            Check.due("desk, i " + i, x.list(0, i), i == -1 ? 3 : Check.NONE);
        }
        for (int i : Halls.outside(0, 1)) {
            Check.due("store, i " + i, x.list(1, i), i == -1 ? 2 : Check.NONE);
        }
        x.take(4);
        Check.due("it was taken", x.list(0, 2), Check.NONE);
        BagHall full = Halls.line(1, 0, 99);
        Halls.bags(full, 0, 0, 60);
        Check.due("of sixty, the 61st", full.list(0, 60), Check.NONE);
    }

    private static void farOfAPoint() {
        BagHall x = Halls.line(7, 0, 99);
        for (int p = 0; p <= 5; p++) {
            Check.due("from " + p, x.far(p, 5), 7 * (5 - p));
        }
        x.fall(2, true);
        int[] due = {Check.NONE, Check.NONE, Check.NONE, 14, 7, 0};
        for (int p = 0; p <= 5; p++) {
            Check.due("2 is FALLEN, from " + p, x.far(p, 5), due[p]);
        }
        x.belt(0, 3, 12);
        Check.due("a new belt", x.far(0, 5), 26);
        x.fall(2, false);
        Check.due("2 is mended, the new one is shorter", x.far(0, 5), 26);
        x.bag(0, 0, false);
        x.tick(3);
        Check.due("bags are no hindrance", x.far(0, 5), 26);
        // Points 10 and 11 are CHUTES: far to the highest, and to each of two.
        BagHall y = new BagHall();
        for (int i = 0; i < 10; i++) {
            y.point(Check.SORTER, 0);
        }
        y.point(Check.CHUTE, 0);
        y.point(Check.CHUTE, 0);
        Halls.belts(y, 9, 11, 5, 9, 10, 2);
        Check.due("to 11", y.far(9, 11), 5);
        Check.due("to 10", y.far(9, 10), 2);
        Check.due("11 itself", y.far(11, 11), 0);
    }

    private static void farBeyond() {
        Check.due("without points", new BagHall().far(0, 0), Check.BEYOND);
        BagHall x = Halls.line(1, 0, 99);
        for (int no : Halls.outside(0, 5)) {
            Check.due("point " + no, x.far(no, 5), Check.BEYOND);
            Check.due("chute " + no, x.far(0, no), Check.BEYOND);
            Check.due("both " + no, x.far(no, no), Check.BEYOND);
        }
    }

    private static void farToNoChute() {
        BagHall x = Halls.line(1, 0, 99);
        for (int p = 0; p <= 5; p++) {
            for (int other = 0; other < 5; other++) {
                Check.due("from " + p + " to " + other, x.far(p, other), Check.KIND);
            }
        }
    }

    private static void farWithoutAWay() {
        BagHall x = Halls.oneOfEach();
        int other = x.point(Check.CHUTE, 0);
        for (int p = 0; p < 5; p++) {
            Check.due("without belts, from " + p, x.far(p, 5), Check.NONE);
        }
        Halls.belts(x, 0, 1, 1, 1, 2, 1, 2, 1, 1, 1, other, 1);
        Check.due("belts that go round", x.far(0, 5), Check.NONE);
        Check.due("belts that lead to another CHUTE", x.far(1, 5), Check.NONE);
        Check.due("from that CHUTE", x.far(other, 5), Check.NONE);
        x.belt(2, 5, 1);
        Check.due("a belt that leads there", x.far(0, 5), 3);
        x.fall(4, true);
        Check.due("it is FALLEN", x.far(0, 5), Check.NONE);
        x.keep();
        x.fall(4, false);
        x.back();
        Check.due("back, it is FALLEN again", x.far(0, 5), Check.NONE);
    }

    /** SORTER 1: OUTLETS 1 (9 cells) and 2 (1 cell, then belt 3 of 1 by MERGE 3) to CHUTE 2, 4 to CHUTE 4. */
    private static BagHall sorter() {
        BagHall x = Halls.of(Check.DESK, 0, Check.SORTER, 0, Check.CHUTE, 0, Check.MERGE, 0, Check.CHUTE, 0);
        Halls.belts(x, 0, 1, 1, 1, 2, 9, 1, 3, 1, 3, 2, 1, 1, 4, 1);
        x.flight(2, 0, 99);
        x.flight(4, 0, 99);
        return x;
    }

    private static void routeNow() {
        BagHall x = sorter();
        Check.due("flight 0", x.route(1, 0), 2);
        Check.due("flight 1", x.route(1, 1), 4);
        x.fall(3, true);
        Check.due("now that 3 is FALLEN", x.route(1, 0), 1);
        x.fall(3, false);
        Check.due("now that it is mended", x.route(1, 0), 2);
        x.turns(2, 0);
        Halls.bags(x, 0, 0, 3);
        x.tick(20);
        Check.due("cell 0 of belt 2 is not free", x.cell(2, 0), 0);
        Check.due("still by belt 2", x.route(1, 0), 2);
        Check.due("the sorter waits for it", x.holds(1), 1);
        Check.due("a bag of the other flight, too, has its OUTLET", x.route(1, 1), 4);
        x.belt(1, 2, 1);
        Check.due("now that there is a shorter one", x.route(1, 0), 5);
        x.tick(1);
        Check.due("so it sends", x.cell(5, 0), 1);
        BagHall y = Halls.of(Check.SORTER, 0, Check.CHUTE, 0);
        Halls.belts(y, 0, 1, 3, 0, 1, 3, 0, 1, 2, 0, 1, 2);
        y.flight(1, 0, 0);
        Check.due("of several the lowest", y.route(0, 0), 2);
        Check.due("no bag need be there", y.count(8), 0);
    }

    private static void routeBeyond() {
        Check.due("without points", new BagHall().route(0, 0), Check.BEYOND);
        BagHall x = sorter();
        for (int no : Halls.outside(0, 4)) {
            Check.due("point " + no, x.route(no, 0), Check.BEYOND);
        }
        for (int no : Halls.outside(0, 1)) {
            Check.due("flight " + no, x.route(1, no), Check.BEYOND);
        }
        Check.due("without flights", Halls.oneOfEach().route(3, 0), Check.BEYOND);
    }

    private static void routeOfNoSorter() {
        BagHall x = Halls.line(1, 0, 99);
        int[] others = {0, 1, 2, 4, 5};
        for (int p : others) {
            Check.due("point " + p, x.route(p, 0), Check.KIND);
        }
        Check.due("the SORTER", x.route(3, 0), 3);
    }

    private static void routeWithoutAWay() {
        BagHall bare = Halls.oneOfEach();
        bare.flight(5, 0, 99);
        Check.due("without OUTLETS", bare.route(3, 0), Check.NONE);
        bare.belt(3, 4, 1);
        Check.due("an OUTLET that does not lead there", bare.route(3, 0), Check.NONE);
        BagHall x = sorter();
        Halls.fall(x, true, 1, 2);
        Check.due("its OUTLETS are FALLEN", x.route(1, 0), Check.NONE);
        x.fall(2, false);
        Check.due("one is mended", x.route(1, 0), 2);
        x.fall(3, true);
        Check.due("the way behind it is FALLEN", x.route(1, 0), Check.NONE);
        Check.due("the other flight has a way", x.route(1, 1), 4);
    }

    private static void flownOfAFlight() {
        BagHall x = Halls.of(Check.DESK, 0, Check.DESK, 0, Check.CHUTE, 0, Check.CHUTE, 0);
        Halls.belts(x, 0, 2, 1, 1, 3, 1);
        x.flight(2, 1, 4);
        x.flight(3, 7, 8);
        x.flight(3, 0, 5000);
        Halls.bags(x, 0, 0, 5);
        Halls.bags(x, 1, 0, 1);
        Halls.bags(x, 1, 1, 2);
        Halls.bags(x, 0, 1, 3);
        Halls.bags(x, 1, 0, 1);
        x.take(11);
        x.tick(50);
        // Desk 0: 0 to 4 come at 1, 3, 5, 7, 9, then 8 to 10. Desk 1: 5 comes at 1, 6 at 3, 7 at 5.
        int[][] due = {{2, 1, 4, 2, 3, 1, 7}, {3, 7, 8, 2, 0, 3, 5}, {3, 0, 5000, 0, 0, 0, 0}};
        for (int flight = 0; flight < 3; flight++) {
            for (int what = 0; what <= 6; what++) {
                Check.due("flown(" + flight + ", " + what + ")", x.flown(flight, what), due[flight][what]);
            }
        }
    }

    private static void flownBeyond() {
        Check.due("without flights", Halls.oneOfEach().flown(0, 0), Check.BEYOND);
        BagHall x = sorter();
        for (int no : Halls.outside(0, 1)) {
            for (int what = 0; what <= 6; what++) {
                Check.due("flight " + no + ", what " + what, x.flown(no, what), Check.BEYOND);
            }
        }
        for (int no : Halls.outside(0, 6)) {
            Check.due("what " + no, x.flown(1, no), Check.BEYOND);
            Check.due("both " + no, x.flown(no, no), Check.BEYOND);
        }
    }

    private static void countOfBags() {
        BagHall x = Halls.of(Check.DESK, 0, Check.STORE, 9, Check.SORTER, 0, Check.DESK, 0, Check.CHUTE, 0);
        Halls.belts(x, 0, 1, 1, 0, 2, 1, 3, 4, 1);
        x.flight(4, 0, 99);
        x.flight(4, 0, 0);
        x.point(Check.CHUTE, 0);
        x.flight(5, 0, 99);
        x.fall(1, true);
        // To the store go 2 bags; then 1 to the sorter, 1 stays on its belt, 3 stay at the desk.
        Halls.bags(x, 0, 0, 2);
        x.tick(6);
        x.fall(0, true);
        x.fall(1, false);
        Halls.bags(x, 0, 0, 5);
        // Of desk 3: 1 LOADED, 2 LATE, 3 ASTRAY, 4 IN HAND.
        Halls.bags(x, 3, 0, 1);
        Halls.bags(x, 3, 1, 2);
        Halls.bags(x, 3, 2, 3);
        Halls.bags(x, 3, 0, 4);
        for (int bag = 13; bag <= 16; bag++) {
            x.take(bag);
        }
        x.tick(30);
        int[] due = {3, 1, 1, 2, 4, 1, 2, 3, 17};
        for (int what = 0; what <= 8; what++) {
            Check.due("count(" + what + ")", x.count(what), due[what]);
        }
        BagHall full = Halls.fullAndBusy();
        int sum = 0;
        for (int what = 0; what <= 7; what++) {
            sum += full.count(what);
        }
        Check.due("each bag is counted once", sum, 60);
        Check.due("all", full.count(8), 60);
    }

    private static void countOfTheHall() {
        BagHall x = new BagHall();
        for (int what = 9; what <= 13; what++) {
            Check.due("at first, " + what, x.count(what), 0);
        }
        BagHall y = Halls.fullAndBusy();
        int[] full = {12, 16, 8, 2, 16};
        for (int what = 9; what <= 13; what++) {
            Check.due("full, " + what, y.count(what), full[what - 9]);
        }
        for (int belt = 0; belt < 16; belt++) {
            y.fall(belt, true);
        }
        Check.due("all are FALLEN", y.count(12), 16);
        for (int belt = 0; belt < 16; belt++) {
            y.fall(belt, false);
            Check.due("one is mended", y.count(12), 15 - belt);
        }
        y.tick(100);
        Check.due("THE TICK", y.count(13), 116);
    }

    private static void countOfFindings() {
        BagHall x = Halls.line(1, 0, 99);
        Check.due("none", x.count(14), 0);
        Check.due("none, since it is none itself", x.count(14), 0);
        x.bag(0, 0, false);
        x.take(0);
        Check.due("BEYOND", x.as(6, 0), Check.BEYOND);
        Check.due("KIND", x.as(0, 1), Check.KIND);
        Check.due("SAME", x.belt(1, 1, 1), Check.SAME);
        Check.due("TAKEN", x.take(0), Check.TAKEN);
        Check.due("NONE", x.back(), Check.NONE);
        Check.due("five", x.count(14), 5);
        Check.due("this one, too", x.count(15), Check.BEYOND);
        Check.due("six", x.count(14), 6);
        Check.due("-100 is none", x.place(0), -100);
        Check.due("an answer of 0 is none", x.fall(0, false), 0);
        Check.due("six still", x.count(14), 6);
        x.keep();
        x.where(9);
        x.where(9);
        x.back();
        Check.due("it goes on with back()", x.count(14), 8);
        x.where(9);
        x.back();
        Check.due("each time", x.count(14), 9);
        x.keep();
        Check.due("keep leaves it", x.count(14), 9);
        BagHall full = Halls.fullAndBusy();
        for (int i = 0; i < 300; i++) {
            full.point(0, 0);
        }
        Check.due("FULL, many times", full.count(14), 300);
        eachCallCounts();
    }

    private static void eachCallCounts() {
        BagHall x = Halls.line(1, 0, 99);
        int[] answers = {
            x.point(6, 0), x.belt(0, 0, 1), x.as(6, 0), x.turns(1, 1), x.flight(0, 0, 0), x.fall(5, true),
            x.bag(1, 0, false), x.take(0), x.give(0, 0, true), x.where(0), x.place(0), x.detail(0), x.steps(0),
            x.step(0, 0, true), x.tick(0), x.cell(0, 0), x.holds(0), x.list(0, 0), x.far(0, 0), x.route(0, 0),
            x.flown(1, 0), x.count(-1), x.back(),
        };
        for (int i = 0; i < answers.length; i++) {
            Check.holds("answer " + i + " is a finding: " + answers[i], answers[i] < 0);
        }
        Check.due("each call that can refuse counts", x.count(14), answers.length);
        BagHall y = Halls.of(Check.DESK, 0, Check.MERGE, 0, Check.SORTER, 0, Check.CHUTE, 0);
        int[] good = {
            y.point(0, 0), y.belt(0, 1, 1), y.belt(1, 2, 1), y.belt(2, 3, 1), y.as(1, 1), y.turns(0, 1), y.flight(3, 0, 0),
            y.fall(0, false), y.bag(0, 0, false), y.take(0), y.give(0, 0, true), y.where(0), y.detail(0), y.steps(0),
            y.tick(2), y.step(0, 0, true), y.step(0, 1, false), y.holds(1), y.tick(1), y.cell(1, 0), y.list(0, -1),
            y.far(0, 3), y.route(2, 0), y.flown(0, 6), y.count(14), y.keep(), y.back(), y.place(0),
        };
        for (int i = 0; i < good.length; i++) {
            Check.holds("answer " + i + " is no finding: " + good[i], good[i] >= 0);
        }
        Check.due("none of these counts", y.count(14), 0);
    }

    private static void countBeyond() {
        BagHall x = Halls.line(1, 0, 99);
        int[] whats = Halls.outside(0, 14);
        for (int what : whats) {
            Check.due("what " + what, x.count(what), Check.BEYOND);
        }
        Check.due("each is a finding", x.count(14), whats.length);
        Check.due("14 is the last", x.count(14), whats.length);
        Check.due("0 is the first", x.count(0), 0);
    }

    /** Many things change: ticks go, rows grow, belts fall, TURNS change, bags are taken and given. */
    private static void disturb(BagHall x) {
        x.tick(7);
        x.point(Check.DESK, 0);
        x.point(Check.CHUTE, 0);
        x.belt(6, 7, 4);
        x.belt(3, 7, 1);
        x.belt(6, 1, 1);
        x.flight(7, 3, 4);
        x.bag(6, 1, true);
        x.bag(6, 0, true);
        x.fall(3, true);
        x.fall(1, false);
        x.turns(0, 7);
        x.take(2);
        x.give(2, 6, true);
        x.take(3);
        x.tick(9);
    }

    /** All that disturb left changes once more. */
    private static void disturbMore(BagHall x) {
        x.tick(5);
        x.point(Check.STORE, 3);
        x.belt(3, 8, 1);
        x.flight(5, 0, 1);
        x.bag(6, 2, false);
        x.fall(3, false);
        x.fall(0, true);
        x.turns(0, 4);
        x.give(3, 0, true);
        x.take(4);
        x.tick(12);
    }

    /** A line with bags, TURNS and a FALLEN belt, behind so many ticks. */
    private static BagHall busyLine(int ticks) {
        BagHall x = Halls.line(2, 9, 20);
        x.belt(3, 5, 12);
        x.belt(2, 5, 3);
        x.turns(0, 2);
        Halls.bags(x, 0, 0, 6);
        x.bag(0, 0, true);
        x.tick(ticks);
        x.fall(1, ticks % 2 == 0);
        return x;
    }

    private static void keepInPlaceOfWhatWas() {
        BagHall x = busyLine(3);
        Check.due("THE TICK", x.keep(), 3);
        Check.due("it is as before", x.count(13), 3);
        x.tick(100);
        Check.due("THE TICK, later", x.keep(), 103);
        Check.due("back to the second", x.back(), 103);
        Check.due("not to the first any more", x.back(), 103);
        int[] ticks = {1, 4, 8, 15, 22};
        for (int tick : ticks) {
            Snapshot.Recipe once = () -> {
                BagHall y = busyLine(tick);
                y.keep();
                return y;
            };
            Snapshot.Recipe twice = () -> {
                BagHall y = busyLine(tick);
                y.keep();
                disturb(y);
                y.keep();
                disturbMore(y);
                y.back();
                return y;
            };
            Snapshot.Recipe disturbed = () -> {
                BagHall y = busyLine(tick);
                disturb(y);
                y.keep();
                return y;
            };
            Check.holds("keep changes nothing behind " + tick,
                withoutBack(once).equals(withoutBack(() -> busyLine(tick))));
            Check.holds("in place of what was behind " + tick, Snapshot.of(twice).equals(Snapshot.of(disturbed)));
        }
        BagHall empty = new BagHall();
        Check.due("an empty hall", empty.keep(), 0);
        empty.point(Check.DESK, 0);
        empty.tick(4);
        Check.due("is kept, too", empty.back(), 0);
        Check.due("without points", empty.count(9), 0);
    }

    /** A snapshot but for its last answer, that of back(). */
    private static String withoutBack(Snapshot.Recipe recipe) {
        String told = Snapshot.of(recipe);
        return told.substring(0, told.lastIndexOf(' '));
    }

    private static void backToWhatStays() {
        for (int ticks = 1; ticks <= 24; ticks++) {
            int behind = ticks;
            Snapshot.Recipe kept = () -> {
                BagHall x = busyLine(behind);
                x.keep();
                return x;
            };
            Snapshot.Recipe once = () -> {
                BagHall x = kept.make();
                disturb(x);
                x.back();
                return x;
            };
            Snapshot.Recipe again = () -> {
                BagHall x = once.make();
                disturb(x);
                x.tick(50);
                x.back();
                return x;
            };
            String due = Snapshot.of(kept);
            Check.holds("all is as it was behind " + ticks, Snapshot.of(once).equals(due));
            Check.holds("what is kept stays behind " + ticks, Snapshot.of(again).equals(due));
            String disturbedLater = Snapshot.of(() -> disturbed(kept));
            Check.holds("all goes on so behind " + ticks, Snapshot.of(() -> disturbed(again)).equals(disturbedLater));
            String later = Snapshot.of(() -> goneOn(kept));
            Check.holds("all comes to an end so behind " + ticks, Snapshot.of(() -> goneOn(again)).equals(later));
        }
        BagHall x = busyLine(5);
        x.keep();
        x.tick(9);
        Check.due("THE TICK", x.back(), 5);
        Check.due("it is so", x.count(13), 5);
        Check.due("at once again", x.back(), 5);
        x.tick(1);
        Check.due("and later", x.back(), 5);
        turnsComeBack();
    }

    private static BagHall disturbed(Snapshot.Recipe recipe) {
        BagHall x = recipe.make();
        disturb(x);
        return x;
    }

    /** Until all bags that have a way are at their CHUTE. */
    private static BagHall goneOn(Snapshot.Recipe recipe) {
        BagHall x = recipe.make();
        x.fall(1, false);
        x.tick(70);
        return x;
    }

    private static void turnsComeBack() {
        BagHall x = Halls.of(Check.DESK, 0, Check.DESK, 0, Check.MERGE, 0, Check.CHUTE, 0);
        Halls.belts(x, 0, 2, 1, 1, 2, 1, 2, 3, 1);
        x.flight(3, 0, 99);
        Halls.bags(x, 0, 0, 10);
        Halls.bags(x, 1, 0, 10);
        x.turns(0, 3);
        Check.due("one of three", Check.nextHeld(x, 2, 2), 0);
        x.keep();
        int[] due = {1, 2, 10, 3};
        for (int times = 0; times < 3; times++) {
            for (int bag : due) {
                Check.due("two are left, then the other", Check.nextHeld(x, 2, 2), bag);
            }
            x.turns(0, times);
            x.turns(1, 9);
            x.back();
        }
        for (int times = due.length - 1; times > 0; times--) {
            for (int i = 0; i < times; i++) {
                Check.due("as often as you like", Check.nextHeld(x, 2, 2), due[i]);
            }
            x.back();
        }
    }

    private static void backToNothing() {
        BagHall x = new BagHall();
        Check.due("a new object", x.back(), Check.NONE);
        x.tick(5);
        x.point(Check.DESK, 0);
        Check.due("later, too", x.back(), Check.NONE);
        Check.due("THE TICK is as it was", x.count(13), 5);
        Check.due("the points are as they were", x.count(9), 1);
        Check.due("each is a finding", x.count(14), 2);
        x.keep();
        Check.due("something is kept", x.back(), 5);
        Check.due("another object has nothing", new BagHall().back(), Check.NONE);
    }
}
