/** The Terms on how a tick goes, and promise 16: tick. */
public final class TickRulesTest {
    public static void main(String[] args) {
        tickFindings();
        deskGivesToLowestSoundOutlet();
        deskWaitsForItsLowestOutlet();
        mergeGivesLikewise();
        screenHoldsForItsTicks();
        screenOutlets();
        sorterSendsTheShortestWay();
        sorterWaits();
        storeOpens();
        storeRoom();
        storeGivesTheFirstThatIsOpen();
        storeOutlets();
        beltsMove();
        fallenBeltsRest();
        givenBagsRestForTheTick();
        mergeAsksAllOnceMore();
        mergeSkipsWhatIsNotReady();
        lowestInletFirst();
        justGivenIsPassedOver();
        storeTakesOneATick();
        chuteTakesFromAll();
        pointsHoldOne();
        Check.end();
    }

    private static BagHall hall(int... kindsAndValues) {
        BagHall x = new BagHall();
        for (int i = 0; i + 1 < kindsAndValues.length; i += 2) {
            x.point(kindsAndValues[i], kindsAndValues[i + 1]);
        }
        return x;
    }

    private static void bags(BagHall x, int desk, int flight, int n) {
        for (int i = 0; i < n; i++) {
            x.bag(desk, flight, false);
        }
    }

    private static void tickFindings() {
        BagHall x = new BagHall();
        Check.due("16: 0", x.tick(0), Check.BEYOND);
        Check.due("16: -1", x.tick(-1), Check.BEYOND);
        Check.due("16: 101", x.tick(101), Check.BEYOND);
        Check.due("16: greatest", x.tick(Integer.MAX_VALUE), Check.BEYOND);
        Check.due("16: no tick went", x.count(13), 0);
        Check.due("16: 1", x.tick(1), 1);
        Check.due("16: 100", x.tick(100), 101);
        Check.due("16: THE TICK", x.count(13), 101);
    }

    private static void deskGivesToLowestSoundOutlet() {
        BagHall x = hall(Check.DESK, 0, Check.MERGE, 0, Check.CHUTE, 0);
        x.belt(0, 1, 2);
        x.belt(0, 1, 2);
        x.flight(2, 0, 9);
        bags(x, 0, 0, 3);
        x.tick(1);
        Check.due("2t: lowest outlet", x.cell(0, 0), 0);
        Check.due("2t: one a tick", x.cell(1, 0), Check.NONE);
        x.fall(0, true);
        x.tick(1);
        Check.due("2t: the next sound one", x.cell(1, 0), 1);
        x.fall(1, true);
        x.tick(3);
        Check.due("2t: none sound", x.list(0, 0), 2);
        x.fall(0, false);
        x.take(0);
        x.tick(1);
        Check.due("2t: lowest again", x.cell(0, 0), 2);
    }

    private static void deskWaitsForItsLowestOutlet() {
        BagHall x = hall(Check.DESK, 0, Check.SORTER, 0, Check.CHUTE, 0);
        x.belt(0, 1, 1);
        x.belt(0, 2, 1);
        x.flight(2, 0, 9);
        bags(x, 0, 0, 3);
        x.tick(9);
        // The sorter has no outlet: it holds bag 0, and bag 1 stays behind it.
        Check.due("2t: sorter holds", x.holds(1), 0);
        Check.due("2t: full cell", x.cell(0, 0), 1);
        Check.due("2t: waits though another outlet is free", x.where(2), 0);
    }

    private static void mergeGivesLikewise() {
        BagHall x = hall(Check.DESK, 0, Check.MERGE, 0, Check.CHUTE, 0, Check.MERGE, 0);
        x.belt(0, 1, 1);
        x.belt(1, 3, 2);
        x.belt(1, 2, 1);
        x.flight(2, 0, 90);
        bags(x, 0, 0, 6);
        x.fall(1, true);
        x.tick(4);
        Check.due("2t: MERGE, next sound outlet", x.where(0), 5);
        x.fall(1, false);
        x.tick(20);
        Check.due("2t: MERGE, lowest outlet", x.holds(3) >= 0 ? 1 : 0, 1);
        Check.due("2t: MERGE waits for it", x.holds(1) >= 0 ? 1 : 0, 1);
        Check.due("2t: MERGE, the other stays free", x.cell(2, 0), Check.NONE);
        Check.due("2t: MERGE, all one behind the other", x.count(0) + x.count(1) + x.count(2) + x.count(5), 6);
    }

    private static void screenHoldsForItsTicks() {
        for (int ticks = 1; ticks <= 9; ticks++) {
            BagHall x = hall(Check.DESK, 0, Check.SCREEN, ticks, Check.CHUTE, 0);
            x.belt(0, 1, 1);
            x.belt(1, 2, 1);
            x.flight(2, 0, 90);
            x.bag(0, 0, false);
            x.tick(2);
            Check.due("2t: SCREEN took it", x.holds(1), 0);
            Check.due("2t: at tick 1", x.detail(0), 1);
            for (int i = 1; i < ticks; i++) {
                x.tick(1);
                Check.due("2t: SCREEN " + ticks + " holds behind " + i, x.where(0), 2);
            }
            x.tick(1);
            Check.due("2t: SCREEN " + ticks + " gives", x.where(0), 1);
        }
    }

    private static BagHall screenHall(boolean doubtful, int outlets) {
        BagHall x = hall(Check.DESK, 0, Check.SCREEN, 1, Check.CHUTE, 0);
        x.belt(0, 1, 1);
        for (int i = 0; i < outlets; i++) {
            x.belt(1, 2, 3);
        }
        x.flight(2, 0, 90);
        x.bag(0, 0, doubtful);
        x.tick(2);
        return x;
    }

    private static void screenOutlets() {
        BagHall x = screenHall(false, 3);
        x.tick(1);
        Check.due("2t: SCREEN, lowest outlet", x.place(0), 1);
        x = screenHall(true, 3);
        x.tick(1);
        Check.due("2t: SCREEN, DOUBTFUL to the second", x.place(0), 2);
        x = screenHall(true, 2);
        x.tick(1);
        Check.due("2t: SCREEN, DOUBTFUL, it has two", x.place(0), 2);
        x = screenHall(true, 1);
        x.tick(1);
        Check.due("2t: SCREEN, DOUBTFUL, it has one", x.place(0), 1);
        x = screenHall(false, 2);
        x.fall(1, true);
        x.tick(5);
        Check.due("2t: SCREEN waits for a FALLEN one", x.where(0), 2);
        x.fall(1, false);
        x.tick(1);
        Check.due("2t: SCREEN, mended", x.place(0), 1);
        x = screenHall(true, 3);
        x.fall(2, true);
        x.tick(5);
        Check.due("2t: SCREEN, DOUBTFUL waits for a FALLEN one", x.where(0), 2);
        x = screenHall(true, 3);
        x.fall(1, true);
        x.tick(1);
        Check.due("2t: SCREEN, second lowest, FALLEN or not", x.place(0), 2);
        x = screenHall(false, 0);
        x.tick(5);
        Check.due("2t: SCREEN without outlets", x.holds(1), 0);
    }

    /** Desk 0 to sorter 1; 1 to chute 2 by belts 1 (4 cells), 2 (3 cells), 3 (by merge 3, 1 + 2 cells). */
    private static BagHall sorterHall() {
        BagHall x = hall(Check.DESK, 0, Check.SORTER, 0, Check.CHUTE, 0, Check.MERGE, 0, Check.CHUTE, 0);
        x.belt(0, 1, 1);
        x.belt(1, 2, 4);
        x.belt(1, 2, 3);
        x.belt(1, 3, 1);
        x.belt(3, 2, 2);
        x.belt(1, 4, 1);
        x.flight(2, 0, 90);
        x.bag(0, 0, false);
        x.tick(2);
        return x;
    }

    private static void sorterSendsTheShortestWay() {
        BagHall x = sorterHall();
        Check.due("2t: SORTER holds", x.holds(1), 0);
        x.tick(1);
        Check.due("2t: SORTER, least sum, lowest of several", x.place(0), 2);
        x = sorterHall();
        x.fall(2, true);
        x.tick(1);
        Check.due("2t: SORTER, not a FALLEN one", x.place(0), 3);
        x = sorterHall();
        x.fall(2, true);
        x.fall(4, true);
        x.tick(1);
        Check.due("2t: SORTER, not a broken way", x.place(0), 1);
        x.tick(9);
        Check.due("2t: SORTER, it comes there", x.where(0), 5);
    }

    private static void sorterWaits() {
        BagHall x = sorterHall();
        x.fall(1, true);
        x.fall(2, true);
        x.fall(3, true);
        x.tick(9);
        Check.due("2t: SORTER waits without a way", x.holds(1), 0);
        x.fall(1, false);
        x.tick(1);
        Check.due("2t: SORTER, a way again", x.place(0), 1);
        x = sorterHall();
        x.bag(0, 0, false);
        x.tick(1);
        Check.due("2t: SORTER gave the first", x.cell(2, 0), 0);
        x.fall(2, true);
        x.tick(1);
        Check.due("2t: SORTER took the second", x.holds(1), 1);
        x.fall(2, false);
        x.take(0);
        x.give(0, 0, false);
        x.tick(1);
        Check.due("2t: SORTER gave the second", x.cell(2, 0), 1);
    }

    private static BagHall storeHall(int room, int... openings) {
        BagHall x = hall(Check.DESK, 0, Check.STORE, room, Check.CHUTE, 0);
        x.belt(0, 1, 1);
        x.belt(1, 2, 1);
        for (int i = 0; i < openings.length; i++) {
            x.flight(2, openings[i], 5000);
            x.bag(0, i, false);
        }
        return x;
    }

    private static void storeOpens() {
        BagHall x = storeHall(3, 10);
        x.tick(10);
        Check.due("2t: STORE, not open before", x.where(0), 3);
        Check.due("2t: STORE, came at", x.detail(0), 1);
        x.tick(1);
        Check.due("2t: STORE, open at its OPENING", x.where(0), 1);
        x = storeHall(3, 0);
        x.tick(2);
        Check.due("2t: STORE takes first", x.where(0), 3);
        x.tick(1);
        Check.due("2t: STORE gives at once", x.where(0), 1);
    }

    private static void storeRoom() {
        BagHall x = storeHall(2, 50, 50, 50, 50);
        x.tick(30);
        Check.due("2t: STORE, its ROOM", x.list(1, -1), 2);
        Check.due("2t: STORE, one stays on the belt", x.cell(0, 0), 2);
        Check.due("2t: STORE, one waits", x.list(0, -1), 1);
        x.take(0);
        x.tick(1);
        Check.due("2t: STORE, room again", x.list(1, 1), 2);
    }

    private static void storeGivesTheFirstThatIsOpen() {
        BagHall x = storeHall(5, 30, 20, 20, 10);
        x.tick(10);
        Check.due("19: STORE by coming", x.list(1, 0), 0);
        Check.due("19: STORE by coming, last", x.list(1, 3), 3);
        x.tick(1);
        Check.due("2t: STORE, only 3 is open", x.where(3), 1);
        Check.due("19: STORE, the others stay", x.list(1, -1), 3);
        x.tick(10);
        Check.due("2t: STORE, 1 came before 2", x.where(1), 1);
        Check.due("2t: STORE, 2 stays", x.where(2), 3);
        x.tick(1);
        Check.due("2t: STORE, its outlet was not free", x.where(2), 3);
        x.tick(1);
        Check.due("2t: STORE, then 2", x.where(2), 1);
        Check.due("2t: STORE, 0 stays", x.where(0), 3);
    }

    private static void storeOutlets() {
        BagHall x = storeHall(5, 5);
        x.belt(1, 2, 3);
        x.fall(1, true);
        x.tick(6);
        Check.due("2t: STORE, the next sound outlet", x.place(0), 2);
        x = storeHall(5, 5, 5);
        x.belt(1, 2, 3);
        x.tick(7);
        Check.due("2t: STORE waits for its lowest outlet", x.where(1), 3);
    }

    private static void beltsMove() {
        BagHall x = hall(Check.DESK, 0, Check.SORTER, 0, Check.CHUTE, 0);
        x.belt(0, 1, 4);
        x.flight(2, 0, 90);
        bags(x, 0, 0, 6);
        int[] cells = {0, 1, 2, 3};
        for (int cell : cells) {
            x.tick(1);
            Check.due("2t: a cell a tick", x.where(0) == 1 ? x.detail(0) : 3, cell);
        }
        Check.due("2t: taken in the tick in which it came", x.holds(1), 0);
        Check.due("2t: each second tick one is given", x.detail(1), 1);
        x.tick(20);
        int[] row = {4, 3, 2, 1};
        for (int i = 0; i < row.length; i++) {
            Check.due("2t: row without gaps " + i, x.cell(0, i), row[i]);
        }
        Check.due("2t: no room", x.list(0, 0), 5);
        x.take(0);
        x.tick(1);
        Check.due("2t: the sorter took", x.holds(1), 1);
        Check.due("2t: cells move before it takes", x.cell(0, 3), Check.NONE);
        Check.due("2t: the next one stood", x.cell(0, 2), 2);
        x.tick(1);
        Check.due("2t: all of the row went", x.cell(0, 3), 2);
        Check.due("2t: the last of them, too", x.cell(0, 1), 4);
        Check.due("2t: and left cell 0", x.cell(0, 0), Check.NONE);
        x.tick(1);
        Check.due("2t: then it is filled", x.cell(0, 0), 5);
    }

    private static void fallenBeltsRest() {
        BagHall x = hall(Check.DESK, 0, Check.CHUTE, 0);
        x.belt(0, 1, 3);
        x.flight(1, 0, 90);
        bags(x, 0, 0, 2);
        x.tick(2);
        x.fall(0, true);
        x.tick(9);
        Check.due("2t: FALLEN, it rests", x.cell(0, 1), 0);
        Check.due("2t: FALLEN, none is given", x.list(0, -1), 1);
        x.fall(0, false);
        x.take(1);
        x.tick(1);
        Check.due("2t: mended, it comes", x.where(0), 5);
        x = hall(Check.DESK, 0, Check.CHUTE, 0);
        x.belt(0, 1, 1);
        x.flight(1, 0, 90);
        bags(x, 0, 0, 1);
        x.tick(1);
        x.fall(0, true);
        x.tick(9);
        Check.due("2t: FALLEN, none is taken from it", x.where(0), 1);
    }

    private static void givenBagsRestForTheTick() {
        BagHall x = hall(Check.DESK, 0, Check.CHUTE, 0);
        x.belt(0, 1, 2);
        x.flight(1, 0, 90);
        x.bag(0, 0, false);
        x.tick(1);
        Check.due("2t: given, it does not move", x.cell(0, 0), 0);
        x.tick(1);
        Check.due("2t: moved, it is taken", x.where(0), 5);
        x = hall(Check.DESK, 0, Check.CHUTE, 0);
        x.belt(0, 1, 1);
        x.flight(1, 0, 90);
        x.bag(0, 0, false);
        x.tick(1);
        Check.due("2t: given, it is not taken", x.where(0), 1);
    }

    /** Merge 3 with inlets 0, 1, 2 of one cell from desks 0, 1, 2; outlet 3 of one cell to chute 4. */
    private static BagHall mergeHall() {
        BagHall x = hall(Check.DESK, 0, Check.DESK, 0, Check.DESK, 0, Check.MERGE, 0, Check.CHUTE, 0);
        x.belt(0, 3, 1);
        x.belt(1, 3, 1);
        x.belt(2, 3, 1);
        x.belt(3, 4, 1);
        x.flight(4, 0, 5000);
        return x;
    }

    private static void mergeAsksAllOnceMore() {
        BagHall x = mergeHall();
        x.turns(0, 2);
        x.bag(0, 0, false);
        x.tick(2);
        Check.due("2t: MERGE took one of two turns", x.holds(3), 0);
        x.tick(4);
        // Nothing was ready in between: inlet 0 is at hand with all its turns again.
        bags(x, 0, 0, 3);
        bags(x, 1, 0, 1);
        Check.due("2t: MERGE, all turns again: 1", Check.nextHeld(x, 3, 3), 1);
        Check.due("2t: MERGE, all turns again: 2", Check.nextHeld(x, 3, 3), 2);
        Check.due("2t: MERGE, then the next inlet", Check.nextHeld(x, 3, 3), 4);
        Check.due("2t: MERGE, round to the first", Check.nextHeld(x, 3, 3), 3);
        x = mergeHall();
        x.turns(1, 0);
        x.bag(1, 0, false);
        x.tick(9);
        Check.due("2t: MERGE, no turns, none is taken", x.cell(1, 0), 0);
        x.turns(1, 1);
        x.tick(1);
        Check.due("2t: MERGE, it has turns", x.holds(3), 0);
    }

    private static void mergeSkipsWhatIsNotReady() {
        BagHall x = mergeHall();
        bags(x, 0, 0, 2);
        bags(x, 1, 0, 2);
        bags(x, 2, 0, 2);
        x.tick(2);
        Check.due("2t: MERGE, the lowest first", x.holds(3), 0);
        x.fall(1, true);
        x.tick(2);
        Check.due("2t: MERGE, a FALLEN one is not ready", x.holds(3), 4);
        x.fall(1, false);
        x.tick(2);
        Check.due("2t: MERGE, behind the last the first", x.holds(3), 1);
        x.tick(2);
        Check.due("2t: MERGE, then by numbers", x.holds(3), 2);
        x = mergeHall();
        x.turns(0, 9);
        bags(x, 0, 0, 2);
        bags(x, 1, 0, 1);
        x.tick(1);
        x.take(0);
        x.tick(1);
        Check.due("2t: MERGE, just given is not ready", x.holds(3), 2);
    }

    private static void lowestInletFirst() {
        int[] kinds = {Check.SCREEN, Check.SORTER};
        for (int kind : kinds) {
            BagHall x = hall(Check.DESK, 0, Check.DESK, 0, kind, 1, Check.CHUTE, 0);
            x.belt(0, 2, 1);
            x.belt(1, 2, 1);
            x.belt(2, 3, 1);
            x.flight(3, 0, 90);
            bags(x, 0, 0, 3);
            bags(x, 1, 0, 3);
            Check.due("2t: lowest inlet of " + kind, Check.nextHeld(x, 2, 2), 0);
            Check.due("2t: again the lowest of " + kind, Check.nextHeld(x, 2, 2), 1);
            x.fall(0, true);
            Check.due("2t: not a FALLEN one of " + kind, Check.nextHeld(x, 2, 2), 3);
            x.fall(0, false);
            Check.due("2t: mended, the lowest of " + kind, Check.nextHeld(x, 2, 2), 2);
            Check.due("2t: none in the lowest of " + kind, Check.nextHeld(x, 2, 2), 4);
            x.bag(0, 0, false);
            x.bag(0, 0, false);
            Check.due("2t: the lowest once more of " + kind, Check.nextHeld(x, 2, 2), 6);
        }
    }

    private static void justGivenIsPassedOver() {
        int[] kinds = {Check.SCREEN, Check.SORTER};
        for (int kind : kinds) {
            BagHall x = hall(Check.DESK, 0, Check.DESK, 0, kind, 1, Check.CHUTE, 0);
            x.belt(0, 2, 1);
            x.belt(1, 2, 1);
            x.flight(3, 0, 90);
            bags(x, 1, 0, 1);
            x.tick(1);
            bags(x, 0, 0, 1);
            x.tick(1);
            Check.due("2t: just given to the lowest, the next of " + kind, x.holds(2), 0);
            Check.due("2t: it lies there", x.cell(0, 0), 1);
        }
    }

    private static void storeTakesOneATick() {
        BagHall x = hall(Check.DESK, 0, Check.DESK, 0, Check.STORE, 5, Check.CHUTE, 0);
        x.belt(0, 2, 1);
        x.belt(1, 2, 1);
        x.flight(3, 90, 90);
        bags(x, 1, 0, 1);
        bags(x, 0, 0, 1);
        x.tick(2);
        Check.due("2t: STORE, one a tick", x.list(2, -1), 1);
        Check.due("2t: STORE, from the lowest inlet", x.list(2, 0), 1);
        x.tick(1);
        Check.due("2t: STORE, then the other", x.list(2, 1), 0);
        Check.due("13: STORE, came at", x.detail(0), 2);
    }

    private static void chuteTakesFromAll() {
        BagHall x = hall(Check.DESK, 0, Check.DESK, 0, Check.DESK, 0, Check.CHUTE, 0);
        for (int desk = 0; desk < 3; desk++) {
            x.belt(desk, 3, 1);
        }
        x.flight(3, 0, 90);
        for (int desk = 0; desk < 3; desk++) {
            x.bag(desk, 0, false);
        }
        x.tick(1);
        x.fall(1, true);
        x.tick(1);
        Check.due("2t: CHUTE takes from all", x.count(5), 2);
        Check.due("2t: CHUTE, not from a FALLEN one", x.where(1), 1);
    }

    private static void pointsHoldOne() {
        int[] kinds = {Check.MERGE, Check.SCREEN, Check.SORTER};
        for (int kind : kinds) {
            BagHall x = hall(Check.DESK, 0, kind, 1, Check.CHUTE, 0);
            x.belt(0, 1, 1);
            x.flight(2, 0, 90);
            bags(x, 0, 0, 3);
            x.tick(9);
            Check.due("2t: " + kind + " holds the first", x.holds(1), 0);
            Check.due("2t: " + kind + " holds one", x.count(2), 1);
            x.take(0);
            x.tick(1);
            Check.due("2t: " + kind + " holds the next", x.holds(1), 1);
        }
    }
}
