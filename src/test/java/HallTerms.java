import java.util.function.ToIntFunction;

/** The first sentences of the Terms, on findings and on what a hall is made of, and the limit of 512 calls. */
final class HallTerms {
    private HallTerms() {
    }

    static void addTo(Sentences s) {
        s.whatItIs(16, "An object is used for at most 512 calls after it has been made; what later calls answer is free.",
            HallTerms::allOf512CallsAnswer);

        s.terms(23, "FINDINGS are the answers below 0: BEYOND -1, NONE -2, FULL -3, KIND -4, SAME -5, TAKEN -6.",
            HallTerms::eachFindingHasItsNumber);
        s.terms(3, "Each act tells its findings in the order in which they are asked;",
            HallTerms::findingsComeInTheirOrder);
        s.terms(23, "an act that answers a finding changes nothing.",
            HallTerms::refusedActsChangeNothing);

        s.terms(2, "POINTS 0, 1, .. (at most 12)", HallTerms::twelvePointsOfEachKind);
        s.terms(4, "are of a kind: 0 DESK, 1 MERGE, 2 SCREEN, 3 SORTER, 4 STORE, 5 CHUTE;", HallTerms::sixKinds);
        s.terms(2, "a SCREEN has TICKS (1 to 9),", HallTerms::ticksOfAScreen);
        s.terms(2, "a STORE a ROOM (1 to 20).", HallTerms::roomOfAStore);
        s.terms(3, "BELTS 0, 1, .. (at most 16) lead from a point to another one,", HallTerms::sixteenBelts);
        s.terms(17, "and have CELLS 0, 1, .. (1 to 12) of which each holds a bag or none;", HallTerms::cellsOfABelt);
        s.terms(17, "bags go from cell 0 on.", HallTerms::bagsGoFromCellNought);
        s.terms(7, "A belt may be FALLEN (none is at first).", HallTerms::eachBeltMayFall);
        s.terms(16, "INLETS of a point are the belts that lead to it, OUTLETS those that lead from it, by numbers.",
            HallTerms::inletsAndOutletsByNumbers);
        s.terms(6, "FLIGHTS 0, 1, .. (at most 8) have a CHUTE, an OPENING and a CLOSE", HallTerms::eightFlights);
        s.terms(6, "(ticks, 0 to 5000, the first not above the second).", HallTerms::ticksOfAFlight);
        s.terms(8, "BAGS 0, 1, .. (at most 60) have a flight, and are DOUBTFUL or not.", HallTerms::sixtyBags);
        s.terms(1, "THE TICK is 0 at first.", HallTerms::theTickIsNoughtAtFirst);

        s.terms(20, "FAR of a point to a CHUTE: the least sum of cells of belts,", HallTerms::farIsTheLeastSum);
        s.terms(20, "none of them FALLEN,", HallTerms::farGoesByNoFallenBelt);
        s.terms(20, "one behind the other, that lead there", HallTerms::farGoesAlongTheBelts);
        s.terms(20, "(0 at the CHUTE itself; none without such);", HallTerms::farAtTheChuteAndWithoutAWay);
        s.terms(20, "only through points that are no DESKS and no other CHUTES (the point itself may be one).",
            HallTerms::farThroughWhichPoints);

        s.termsWithoutTest("Ahead of the calls `point`, `belt`, `as`, `turns`, `flight`, `fall`"
            + " the interface says: ---- the hall.");
        s.termsWithoutTest("Ahead of the calls `bag`, `take`, `give`, `where`, `place`, `detail`, `steps`, `step`"
            + " the interface says: ---- bags.");
        s.termsWithoutTest("Ahead of the calls `tick`, `cell`, `holds`, `list`, `far`, `route`, `flown`, `count`,"
            + " `keep`, `back` the interface says: ---- ticks.");
    }

    private static void allOf512CallsAnswer() {
        BagHall x = Halls.of(Check.DESK, 0, Check.MERGE, 0, Check.MERGE, 0, Check.CHUTE, 0);
        Halls.belts(x, 0, 1, 1, 1, 2, 1, 2, 1, 1);
        x.flight(3, 0, 5000);
        x.bag(0, 0, false);
        // Nine calls so far; 497 of tick make 506, and five more questions 511.
        for (int i = 1; i <= 497; i++) {
            Check.due("tick(100), call " + (9 + i), x.tick(100), 100 * i);
        }
        // Given at tick 0, it is taken at each odd tick.
        Check.due("steps, call 507", x.steps(0), 1 + 49700 / 2);
        Check.due("the last step kept, call 508", x.step(0, 29, true), 57);
        Check.due("its point, call 509", x.step(0, 29, false), 1);
        Check.due("no step 30 is kept, call 510", x.step(0, 30, true), Check.BEYOND);
        Check.due("the tick at which it came, call 511", x.detail(0), 49699);
        Check.due("findings, call 512", x.count(14), 1);
        int later = 0;
        for (int i = 0; i < 600; i++) {
            later |= x.tick(100) | x.point(0, 0) | x.keep() | x.back() | x.where(i) | x.bag(0, 0, true);
        }
        Check.holds("later calls answer, whatever it is: " + later, true);
    }

    private static void eachFindingHasItsNumber() {
        BagHall x = Halls.oneOfEach();
        x.flight(5, 0, 0);
        x.bag(0, 0, false);
        x.take(0);
        Check.due("BEYOND, as of point 6", x.as(6, 0), -1);
        Check.due("NONE, back without keep", x.back(), -2);
        for (int i = 6; i < 12; i++) {
            x.point(Check.DESK, 0);
        }
        Check.due("FULL, a 13th point", x.point(Check.DESK, 0), -3);
        Check.due("KIND, a DESK as a MERGE", x.as(0, 1), -4);
        Check.due("SAME, a belt from 1 to 1", x.belt(1, 1, 1), -5);
        Check.due("TAKEN, take twice", x.take(0), -6);
        Check.due("each is counted", x.count(14), 6);
    }

    private static void findingsComeInTheirOrder() {
        BagHall x = Halls.fullAndBusy();
        Check.due("point: kind BEYOND ahead of FULL", x.point(6, 0), Check.BEYOND);
        Check.due("point: v BEYOND ahead of FULL", x.point(Check.SCREEN, 0), Check.BEYOND);
        Check.due("point: FULL", x.point(Check.SCREEN, 1), Check.FULL);
        Check.due("belt: point BEYOND ahead of SAME", x.belt(12, 12, 1), Check.BEYOND);
        Check.due("belt: cells BEYOND ahead of SAME", x.belt(2, 2, 13), Check.BEYOND);
        Check.due("belt: cells BEYOND ahead of KIND", x.belt(6, 0, 0), Check.BEYOND);
        Check.due("belt: point BEYOND ahead of KIND", x.belt(6, 12, 1), Check.BEYOND);
        Check.due("belt: BEYOND ahead of FULL", x.belt(2, 3, 0), Check.BEYOND);
        Check.due("belt: SAME ahead of KIND, a CHUTE", x.belt(6, 6, 1), Check.SAME);
        Check.due("belt: SAME ahead of KIND, a DESK", x.belt(0, 0, 1), Check.SAME);
        Check.due("belt: SAME ahead of FULL", x.belt(2, 2, 1), Check.SAME);
        Check.due("belt: KIND ahead of FULL, from a CHUTE", x.belt(6, 2, 1), Check.KIND);
        Check.due("belt: KIND ahead of FULL, to a DESK", x.belt(2, 0, 1), Check.KIND);
        Check.due("belt: FULL", x.belt(2, 3, 1), Check.FULL);
        Check.due("as: kind BEYOND ahead of KIND", x.as(0, 6), Check.BEYOND);
        Check.due("turns: v BEYOND ahead of KIND", x.turns(2, 10), Check.BEYOND);
        Check.due("flight: tick BEYOND ahead of KIND", x.flight(0, 1, 0), Check.BEYOND);
        Check.due("flight: tick BEYOND ahead of FULL", x.flight(6, 1, 0), Check.BEYOND);
        Check.due("flight: KIND ahead of FULL", x.flight(0, 0, 0), Check.KIND);
        Check.due("flight: FULL", x.flight(6, 0, 0), Check.FULL);
        Check.due("bag: flight BEYOND ahead of KIND", x.bag(2, 8, false), Check.BEYOND);
        Check.due("bag: flight BEYOND ahead of FULL", x.bag(0, 8, false), Check.BEYOND);
        Check.due("bag: KIND ahead of FULL", x.bag(2, 0, false), Check.KIND);
        Check.due("bag: FULL", x.bag(0, 0, false), Check.FULL);
        Check.due("give: bag BEYOND ahead of KIND", x.give(60, 2, false), Check.BEYOND);
        Check.due("give: point BEYOND ahead of NONE", x.give(59, 12, false), Check.BEYOND);
        Check.due("give: KIND ahead of NONE", x.give(59, 2, false), Check.KIND);
        Check.due("give: NONE", x.give(59, 0, false), Check.NONE);
        Check.due("holds: KIND ahead of NONE", x.holds(6), Check.KIND);
        Check.due("list: KIND ahead of NONE", x.list(6, 60), Check.KIND);
        Check.due("far: point BEYOND ahead of KIND", x.far(12, 0), Check.BEYOND);
        Check.due("far: KIND ahead of NONE", x.far(7, 0), Check.KIND);
        Check.due("route: flight BEYOND ahead of KIND", x.route(0, 8), Check.BEYOND);
        Check.due("route: KIND ahead of NONE", x.route(7, 0), Check.KIND);
        Check.due("flown: flight BEYOND", x.flown(8, 0), Check.BEYOND);
    }

    private static void refusedActsChangeNothing() {
        refused("point, BEYOND", Check.BEYOND, x -> x.point(6, 1));
        refused("point, BEYOND of v", Check.BEYOND, x -> x.point(Check.STORE, 21));
        refused("point, FULL", Check.FULL, x -> x.point(Check.MERGE, 1));
        refused("belt, BEYOND", Check.BEYOND, x -> x.belt(0, 12, 1));
        refused("belt, BEYOND of cells", Check.BEYOND, x -> x.belt(0, 2, 13));
        refused("belt, SAME", Check.SAME, x -> x.belt(2, 2, 1));
        refused("belt, KIND", Check.KIND, x -> x.belt(2, 0, 1));
        refused("belt, FULL", Check.FULL, x -> x.belt(0, 7, 1));
        refused("as, BEYOND", Check.BEYOND, x -> x.as(12, 0));
        refused("as, KIND", Check.KIND, x -> x.as(0, 1));
        refused("turns, BEYOND", Check.BEYOND, x -> x.turns(16, 0));
        refused("turns, BEYOND of v", Check.BEYOND, x -> x.turns(0, 10));
        refused("turns, KIND", Check.KIND, x -> x.turns(2, 0));
        refused("flight, BEYOND", Check.BEYOND, x -> x.flight(6, 9, 8));
        refused("flight, KIND", Check.KIND, x -> x.flight(0, 0, 9));
        refused("flight, FULL", Check.FULL, x -> x.flight(7, 0, 9));
        refused("fall, BEYOND", Check.BEYOND, x -> x.fall(16, true));
        refused("bag, BEYOND", Check.BEYOND, x -> x.bag(0, 8, true));
        refused("bag, KIND", Check.KIND, x -> x.bag(2, 0, true));
        refused("bag, FULL", Check.FULL, x -> x.bag(0, 0, true));
        refused("take, BEYOND", Check.BEYOND, x -> x.take(60));
        refused("take, TAKEN", Check.TAKEN, x -> x.take(40));
        refused("give, BEYOND", Check.BEYOND, x -> x.give(40, 12, true));
        refused("give, KIND", Check.KIND, x -> x.give(40, 2, true));
        refused("give, NONE, a bag that waits", Check.NONE, x -> x.give(59, 0, true));
        refused("give, NONE, a bag ahead of a SCREEN", Check.NONE, x -> x.give(10, 0, true));
        refused("where, BEYOND", Check.BEYOND, x -> x.where(60));
        refused("place, BEYOND", Check.BEYOND, x -> x.place(60));
        refused("detail, BEYOND", Check.BEYOND, x -> x.detail(60));
        refused("detail, NONE", Check.NONE, x -> x.detail(40));
        refused("steps, BEYOND", Check.BEYOND, x -> x.steps(60));
        refused("step, BEYOND", Check.BEYOND, x -> x.step(0, 30, true));
        refused("tick, BEYOND below", Check.BEYOND, x -> x.tick(0));
        refused("tick, BEYOND above", Check.BEYOND, x -> x.tick(101));
        refused("cell, BEYOND", Check.BEYOND, x -> x.cell(0, 2));
        refused("cell, NONE", Check.NONE, x -> x.cell(15, 11));
        refused("holds, BEYOND", Check.BEYOND, x -> x.holds(12));
        refused("holds, KIND", Check.KIND, x -> x.holds(0));
        refused("holds, NONE", Check.NONE, x -> x.holds(8));
        refused("list, BEYOND", Check.BEYOND, x -> x.list(12, 0));
        refused("list, KIND", Check.KIND, x -> x.list(2, 0));
        refused("list, NONE", Check.NONE, x -> x.list(0, 60));
        refused("far, BEYOND", Check.BEYOND, x -> x.far(0, 12));
        refused("far, KIND", Check.KIND, x -> x.far(0, 2));
        refused("far, NONE", Check.NONE, x -> x.far(10, 6));
        refused("route, BEYOND", Check.BEYOND, x -> x.route(4, 8));
        refused("route, KIND", Check.KIND, x -> x.route(2, 0));
        refused("route, NONE", Check.NONE, x -> x.route(10, 0));
        refused("flown, BEYOND", Check.BEYOND, x -> x.flown(0, 7));
        refused("count, BEYOND", Check.BEYOND, x -> x.count(15));
        BagHall bare = Halls.line(1, 0, 9);
        bare.bag(0, 0, false);
        bare.tick(2);
        Check.due("back, NONE", bare.back(), Check.NONE);
        Check.due("behind it THE TICK is as it was", bare.count(13), 2);
        Check.due("behind it the bag is where it was", bare.holds(1), 0);
    }

    /** The act must answer the finding, and the hall must be, go on and come back as it does without the act. */
    private static void refused(String name, int finding, ToIntFunction<BagHall> act) {
        BagHall sample = Halls.fullAndBusy();
        Check.due(name, act.applyAsInt(sample), finding);
        Check.due(name + " is counted as one", sample.count(14), 1);
        Snapshot.Recipe with = () -> {
            BagHall x = Halls.fullAndBusy();
            act.applyAsInt(x);
            return x;
        };
        Check.holds(name + ": all is as it was", Snapshot.of(with).equals(Refused.NOW));
        Check.holds(name + ": all goes on as it would", Snapshot.of(() -> later(with)).equals(Refused.LATER));
        Check.holds(name + ": what is kept stays", Snapshot.of(() -> again(with)).equals(Refused.AGAIN));
    }

    private static BagHall later(Snapshot.Recipe recipe) {
        BagHall x = recipe.make();
        Halls.fall(x, false, 6, 12);
        x.tick(60);
        return x;
    }

    private static BagHall again(Snapshot.Recipe recipe) {
        BagHall x = recipe.make();
        x.back();
        x.tick(4);
        return x;
    }

    /** The hall without a refused act: at once, later, and brought back. */
    private static final class Refused {
        static final String NOW = Snapshot.of(Halls::fullAndBusy);
        static final String LATER = Snapshot.of(() -> later(Halls::fullAndBusy));
        static final String AGAIN = Snapshot.of(() -> again(Halls::fullAndBusy));
    }

    private static void twelvePointsOfEachKind() {
        for (int kind = 0; kind <= 5; kind++) {
            BagHall x = new BagHall();
            for (int i = 0; i < 12; i++) {
                Check.due("point " + i + " of kind " + kind, x.point(kind, 1), i);
            }
            Check.due("the 13th of kind " + kind, x.point(kind, 1), Check.FULL);
            Check.due("point 11 is one", x.as(11, kind), 11);
            Check.due("there is no point 12", x.as(12, kind), Check.BEYOND);
            Check.due("12 points", x.count(9), 12);
        }
    }

    private static void sixKinds() {
        BagHall x = Halls.oneOfEach();
        for (int point = 0; point <= 5; point++) {
            for (int kind = 0; kind <= 5; kind++) {
                Check.due("point " + point + " as " + kind, x.as(point, kind), point == kind ? point : Check.KIND);
            }
        }
        Check.due("kind -1", x.point(-1, 1), Check.BEYOND);
        Check.due("kind 6", x.point(6, 1), Check.BEYOND);
        eachKindIsWhatItIsCalled();
    }

    /** Which calls a point takes tells what it is. */
    private static void eachKindIsWhatItIsCalled() {
        for (int kind = 0; kind <= 5; kind++) {
            BagHall x = Halls.of(kind, 1, Check.SORTER, 0, Check.CHUTE, 0);
            x.flight(2, 0, 9);
            Check.holds("0 is DESK: bags wait there, kind " + kind, (x.bag(0, 0, false) == 0) == (kind == 0));
            Check.holds("0 is DESK: no belt leads there, kind " + kind, (x.belt(1, 0, 1) == Check.KIND) == (kind == 0));
            Check.holds("1 is MERGE: INLETS have TURNS, kind " + kind, (x.turns(0, 1) == 1) == (kind == 1));
            Check.holds("1, 2, 3 hold a bag or none, kind " + kind,
                (x.holds(0) == Check.NONE) == (kind >= 1 && kind <= 3));
            Check.holds("2 is SCREEN: at most 9, kind " + kind, (x.point(kind, 10) == Check.BEYOND) == (kind == 2));
            Check.holds("2 and 4 have a value, kind " + kind,
                (x.point(kind, 21) == Check.BEYOND) == (kind == 2 || kind == 4));
            Check.holds("3 is SORTER: it has routes, kind " + kind, (x.route(0, 0) == Check.NONE) == (kind == 3));
            Check.holds("0 and 4 have lists, kind " + kind, (x.list(0, -1) >= 0) == (kind == 0 || kind == 4));
            Check.holds("5 is CHUTE: it has flights, kind " + kind, (x.flight(0, 0, 9) == 1) == (kind == 5));
            Check.holds("5 is CHUTE: no belt leads from it, kind " + kind, (x.belt(0, 1, 1) == Check.KIND) == (kind == 5));
        }
    }

    private static void ticksOfAScreen() {
        BagHall y = new BagHall();
        Check.due("TICKS 0", y.point(Check.SCREEN, 0), Check.BEYOND);
        Check.due("TICKS 10", y.point(Check.SCREEN, 10), Check.BEYOND);
        for (int ticks = 1; ticks <= 9; ticks++) {
            BagHall x = Halls.deskTo(Check.SCREEN, ticks);
            x.belt(1, 2, 1);
            x.bag(0, 0, false);
            x.tick(2);
            Check.due("TICKS " + ticks + ": taken at tick 1", x.detail(0), 1);
            if (ticks > 1) {
                x.tick(ticks - 1);
            }
            Check.due("TICKS " + ticks + ": it is still held", x.holds(1), 0);
            x.tick(1);
            Check.due("TICKS " + ticks + ": it is given", x.cell(1, 0), 0);
        }
    }

    private static void roomOfAStore() {
        BagHall y = new BagHall();
        Check.due("ROOM 0", y.point(Check.STORE, 0), Check.BEYOND);
        Check.due("ROOM 21", y.point(Check.STORE, 21), Check.BEYOND);
        for (int room = 1; room <= 20; room++) {
            BagHall x = Halls.deskTo(Check.STORE, room);
            Halls.bags(x, 0, 0, room + 2);
            x.tick(60);
            Check.due("ROOM " + room + ": so many lie there", x.list(1, -1), room);
            Check.due("ROOM " + room + ": the last of them", x.list(1, room - 1), room - 1);
            Check.due("ROOM " + room + ": one more stays on the belt", x.cell(0, 0), room);
            Check.due("ROOM " + room + ": one more stays at the desk", x.list(0, 0), room + 1);
        }
    }

    private static void sixteenBelts() {
        BagHall x = Halls.oneOfEach();
        for (int i = 0; i < 16; i++) {
            Check.due("belt " + i, x.belt(0, 5, 1), i);
        }
        Check.due("the 17th", x.belt(0, 5, 1), Check.FULL);
        Check.due("there is no belt 16", x.fall(16, true), Check.BEYOND);
        Check.due("16 belts", x.count(10), 16);
        x.flight(5, 0, 9);
        x.bag(0, 0, false);
        for (int i = 0; i < 15; i++) {
            x.fall(i, true);
        }
        x.tick(1);
        Check.due("from the desk to belt 15", x.cell(15, 0), 0);
        x.tick(1);
        Check.due("from belt 15 to the chute", x.place(0), 5);
        BagHall y = Halls.oneOfEach();
        for (int p = 0; p <= 5; p++) {
            Check.due("from " + p + " to itself", y.belt(p, p, 1), Check.SAME);
        }
    }

    private static void cellsOfABelt() {
        BagHall y = Halls.oneOfEach();
        Check.due("0 cells", y.belt(0, 1, 0), Check.BEYOND);
        Check.due("13 cells", y.belt(0, 1, 13), Check.BEYOND);
        for (int cells = 1; cells <= 12; cells++) {
            BagHall x = Halls.of(Check.DESK, 0, Check.SORTER, 0, Check.CHUTE, 0);
            Check.due("a belt of " + cells, x.belt(0, 1, cells), 0);
            for (int cell = 0; cell < cells; cell++) {
                Check.due("cell " + cell + " of " + cells + " is free", x.cell(0, cell), Check.NONE);
            }
            Check.due("it has no cell " + cells, x.cell(0, cells), Check.BEYOND);
            x.flight(2, 0, 9);
            Halls.bags(x, 0, 0, 20);
            x.tick(60);
            // The sorter holds bag 0 for ever; the others stand in a row behind it.
            for (int cell = 0; cell < cells; cell++) {
                Check.due("cell " + cell + " of " + cells + " has a bag", x.cell(0, cell), cells - cell);
            }
            Check.due("no bag is in a cell " + cells, x.cell(0, cells), Check.BEYOND);
            Check.due("so many are on it", x.count(1), cells);
        }
    }

    private static void bagsGoFromCellNought() {
        BagHall x = Halls.of(Check.DESK, 0, Check.CHUTE, 0);
        x.belt(0, 1, 12);
        x.flight(1, 0, 99);
        x.bag(0, 0, false);
        for (int cell = 0; cell < 11; cell++) {
            x.tick(1);
            Check.due("behind " + (cell + 1) + " ticks", x.cell(0, cell), 0);
        }
        Check.due("it is on the belt", x.where(0), 1);
        x.tick(1);
        Check.due("it left at the far end", x.where(0), 5);
    }

    private static void eachBeltMayFall() {
        BagHall x = Halls.oneOfEach();
        for (int i = 0; i < 16; i++) {
            x.belt(0, 5, 1);
        }
        Check.due("none is FALLEN at first", x.count(12), 0);
        for (int i = 0; i < 16; i++) {
            Check.due("belt " + i + " was not FALLEN", x.fall(i, false), 0);
            Check.due("belt " + i + " falls", x.fall(i, true), 1);
            Check.due("so many are FALLEN", x.count(12), i + 1);
        }
    }

    private static void inletsAndOutletsByNumbers() {
        // The lower belt leads from the higher desk, and to the higher chute.
        BagHall x = Halls.of(Check.DESK, 0, Check.DESK, 0, Check.SCREEN, 1, Check.CHUTE, 0, Check.CHUTE, 0);
        Halls.belts(x, 2, 4, 1, 1, 2, 1, 0, 2, 1, 2, 3, 1);
        x.flight(3, 0, 99);
        x.bag(0, 0, false);
        x.bag(1, 0, false);
        x.tick(2);
        Check.due("INLET 1 is lower than 2", x.holds(2), 1);
        x.tick(1);
        Check.due("OUTLET 0 is lower than 3", x.cell(0, 0), 1);
        Check.due("then INLET 2", x.holds(2), 0);
        // Another point's belts are neither: a merge between others takes and gives nothing of theirs.
        BagHall y = Halls.of(Check.DESK, 0, Check.CHUTE, 0, Check.MERGE, 0);
        Halls.belts(y, 0, 1, 3);
        y.flight(1, 0, 99);
        y.bag(0, 0, false);
        y.tick(9);
        Check.due("it came to its chute", y.where(0), 5);
        Check.due("by two steps", y.steps(0), 2);
    }

    private static void eightFlights() {
        BagHall x = Halls.of(Check.CHUTE, 0, Check.DESK, 0, Check.CHUTE, 0);
        for (int i = 0; i < 8; i++) {
            Check.due("flight " + i, x.flight(i % 2 * 2, i, 10 * i), i);
        }
        Check.due("the ninth", x.flight(0, 0, 0), Check.FULL);
        Check.due("8 flights", x.count(11), 8);
        for (int i = 0; i < 8; i++) {
            Check.due("CHUTE of " + i, x.flown(i, 0), i % 2 * 2);
            Check.due("OPENING of " + i, x.flown(i, 1), i);
            Check.due("CLOSE of " + i, x.flown(i, 2), 10 * i);
        }
        Check.due("there is no flight 8", x.flown(8, 0), Check.BEYOND);
    }

    private static void ticksOfAFlight() {
        int[][] wrong = {
            {-1, 0}, {-1, -1}, {0, -1}, {0, 5001}, {5000, 5001}, {5001, 5001}, {5001, 5000}, {1, 0}, {5000, 4999},
            {5000, 0}, {Integer.MIN_VALUE, 0}, {0, Integer.MIN_VALUE}, {Integer.MIN_VALUE, Integer.MIN_VALUE},
            {Integer.MAX_VALUE, Integer.MAX_VALUE}, {0, Integer.MAX_VALUE}, {Integer.MAX_VALUE, 0},
            {Integer.MIN_VALUE, Integer.MAX_VALUE}, {Integer.MAX_VALUE, Integer.MIN_VALUE},
            {1, Integer.MIN_VALUE}, {5000, Integer.MIN_VALUE}, {5000, Integer.MAX_VALUE},
        };
        BagHall x = Halls.of(Check.CHUTE, 0);
        for (int[] ticks : wrong) {
            Check.due(ticks[0] + " to " + ticks[1], x.flight(0, ticks[0], ticks[1]), Check.BEYOND);
        }
        Check.due("none of these was made", x.count(11), 0);
        int[][] right = {{0, 0}, {0, 5000}, {5000, 5000}, {4999, 5000}, {1, 1}, {0, 1}, {2500, 2501}};
        for (int i = 0; i < right.length; i++) {
            Check.due(right[i][0] + " to " + right[i][1], x.flight(0, right[i][0], right[i][1]), i);
            Check.due("OPENING " + right[i][0], x.flown(i, 1), right[i][0]);
            Check.due("CLOSE " + right[i][1], x.flown(i, 2), right[i][1]);
        }
    }

    private static void sixtyBags() {
        BagHall x = Halls.of(Check.DESK, 0, Check.SCREEN, 1, Check.CHUTE, 0, Check.CHUTE, 0);
        Halls.belts(x, 0, 1, 1, 1, 2, 1, 1, 3, 1);
        x.flight(2, 0, 5000);
        x.flight(3, 0, 5000);
        for (int i = 0; i < 60; i++) {
            Check.due("bag " + i, x.bag(0, i % 3 == 0 ? 1 : 0, i % 2 == 1), i);
        }
        Check.due("the 61st", x.bag(0, 0, false), Check.FULL);
        Check.due("60 bags", x.count(8), 60);
        Check.due("those of flight 0", x.flown(0, 6), 40);
        Check.due("those of flight 1", x.flown(1, 6), 20);
        x.tick(100);
        x.tick(100);
        for (int i = 0; i < 60; i++) {
            Check.due("DOUBTFUL or not, bag " + i, x.place(i), i % 2 == 1 ? 3 : 2);
        }
        Check.due("LOADED of flight 0", x.flown(0, 3), 20);
        Check.due("ASTRAY of flight 0", x.flown(0, 5), 20);
        Check.due("LOADED of flight 1", x.flown(1, 3), 10);
        Check.due("there is no bag 60", x.where(60), Check.BEYOND);
    }

    private static void theTickIsNoughtAtFirst() {
        Check.due("count(13)", new BagHall().count(13), 0);
        Check.due("keep()", new BagHall().keep(), 0);
        Check.due("tick(1)", new BagHall().tick(1), 1);
        BagHall x = Halls.deskTo(Check.MERGE, 0);
        x.bag(0, 0, false);
        x.tick(1);
        Check.due("a bag of the first TICK is given at 0", x.step(0, 0, true), 0);
    }

    private static void farIsTheLeastSum() {
        BagHall x = Halls.of(Check.DESK, 0, Check.MERGE, 0, Check.SORTER, 0, Check.CHUTE, 0);
        x.belt(0, 3, 12);
        Check.due("one belt", x.far(0, 3), 12);
        Halls.belts(x, 0, 1, 5, 1, 3, 7);
        Check.due("two belts, as much", x.far(0, 3), 12);
        x.belt(1, 3, 6);
        Check.due("two belts, less", x.far(0, 3), 11);
        Halls.belts(x, 1, 2, 2, 2, 3, 3);
        Check.due("three belts, still less", x.far(0, 3), 10);
        Check.due("from 1", x.far(1, 3), 5);
        Check.due("from 2", x.far(2, 3), 3);
        x.belt(0, 3, 1);
        Check.due("one cell is the least", x.far(0, 3), 1);
        Halls.belts(x, 0, 2, 1, 1, 2, 12, 0, 1, 1, 2, 1, 1);
        Check.due("longer ways that come later leave it, from 0", x.far(0, 3), 1);
        Check.due("longer ways that come later leave it, from 1", x.far(1, 3), 5);
        Check.due("longer ways that come later leave it, from 2", x.far(2, 3), 3);
        BagHall y = new BagHall();
        y.point(Check.DESK, 0);
        for (int i = 1; i < 11; i++) {
            y.point(i % 4 + 1, 1);
        }
        y.point(Check.CHUTE, 0);
        // Each belt comes before the one that leads on, then each behind it.
        for (int i = 0; i < 11; i++) {
            y.belt(i, i + 1, 12);
        }
        Check.due("through all twelve points", y.far(0, 11), 132);
        BagHall z = new BagHall();
        z.point(Check.CHUTE, 0);
        for (int i = 1; i < 12; i++) {
            z.point(Check.MERGE, 0);
        }
        for (int i = 0; i < 11; i++) {
            z.belt(i + 1, i, 12);
        }
        Check.due("through all twelve, the other way round", z.far(11, 0), 132);
    }

    private static void farGoesByNoFallenBelt() {
        BagHall x = Halls.of(Check.DESK, 0, Check.MERGE, 0, Check.CHUTE, 0);
        Halls.belts(x, 0, 1, 1, 1, 2, 2, 1, 2, 5, 0, 2, 9);
        Check.due("none is FALLEN", x.far(0, 2), 3);
        x.fall(1, true);
        Check.due("the belt behind is FALLEN", x.far(0, 2), 6);
        Check.due("from the merge", x.far(1, 2), 5);
        x.fall(0, true);
        Check.due("its own belt is FALLEN", x.far(0, 2), 9);
        x.fall(3, true);
        Check.due("all its own are FALLEN", x.far(0, 2), Check.NONE);
        Check.due("not so from the merge", x.far(1, 2), 5);
        x.fall(2, true);
        Check.due("all are FALLEN", x.far(1, 2), Check.NONE);
        Halls.fall(x, false, 0, 1);
        Check.due("two are mended", x.far(0, 2), 3);
    }

    private static void farGoesAlongTheBelts() {
        BagHall x = Halls.of(Check.CHUTE, 0, Check.MERGE, 0, Check.SORTER, 0, Check.DESK, 0);
        Halls.belts(x, 1, 2, 4, 3, 2, 1);
        Check.due("belts that end ahead of it", x.far(1, 0), Check.NONE);
        x.belt(1, 0, 3);
        Check.due("2 has no belt to 1", x.far(2, 0), Check.NONE);
        Check.due("1 has one there", x.far(1, 0), 3);
        Check.due("3 comes to 2 alone", x.far(3, 0), Check.NONE);
        x.belt(2, 1, 2);
        Check.due("2 by 1", x.far(2, 0), 5);
        Check.due("3 by 2 and 1", x.far(3, 0), 6);
        Check.due("1 does not go round", x.far(1, 0), 3);
    }

    private static void farAtTheChuteAndWithoutAWay() {
        BagHall x = Halls.oneOfEach();
        x.point(Check.CHUTE, 0);
        Check.due("at the CHUTE itself", x.far(5, 5), 0);
        Check.due("at the other CHUTE itself", x.far(6, 6), 0);
        for (int p = 0; p < 5; p++) {
            Check.due("without belts, from " + p, x.far(p, 5), Check.NONE);
        }
        x.belt(1, 5, 3);
        x.fall(0, true);
        Check.due("at the CHUTE, its INLET FALLEN", x.far(5, 5), 0);
        Check.due("no sound belt", x.far(1, 5), Check.NONE);
        Check.due("another CHUTE has no way", x.far(5, 6), Check.NONE);
    }

    private static void farThroughWhichPoints() {
        for (int kind = Check.MERGE; kind <= Check.STORE; kind++) {
            BagHall x = Halls.of(Check.DESK, 0, kind, 1, Check.CHUTE, 0, Check.CHUTE, 0);
            Halls.belts(x, 0, 1, 2, 1, 2, 3);
            Check.due("from a DESK, through kind " + kind, x.far(0, 2), 5);
            Check.due("from kind " + kind, x.far(1, 2), 3);
            x.belt(1, 3, 1);
            Check.due("to the other CHUTE", x.far(0, 3), 3);
            Check.due("not through the other CHUTE", x.far(3, 2), Check.NONE);
            Check.due("no belt leads on from a CHUTE", x.belt(3, 2, 1), Check.KIND);
            Check.due("no belt leads to a DESK", x.belt(1, 0, 1), Check.KIND);
            Check.due("as it was", x.far(0, 2), 5);
        }
        BagHall y = Halls.of(Check.DESK, 0, Check.DESK, 0, Check.CHUTE, 0, Check.CHUTE, 0);
        Halls.belts(y, 0, 2, 4, 1, 3, 1);
        Check.due("the point itself may be a DESK", y.far(0, 2), 4);
        Check.due("the other DESK has its own way alone", y.far(1, 2), Check.NONE);
        Check.due("the point itself may be a CHUTE", y.far(2, 3), Check.NONE);
    }
}
