/** The sentences of the Terms on (3), how points take, and on STEPS. */
final class TakeTerms {
    private TakeTerms() {
    }

    static void addTo(Sentences s) {
        s.terms(16, "(3) Points take, by numbers.", TakeTerms::allPointsTakeBehindBelts);
        s.terms(16, "One that is no STORE or CHUTE takes when it holds none", TakeTerms::takesWhenItHoldsNone);
        s.terms(16, "(a DESK never).", TakeTerms::aDeskTakesNever);
        s.terms(5, "INLETS of a MERGE have TURNS (0 to 9; 1 at first);", TakeTerms::turnsOfInlets);
        s.terms(16, "one of them is at hand (at first the lowest, with all its TURNS left).",
            TakeTerms::theLowestIsAtHandAtFirst);
        s.terms(16, "READY is one that is not FALLEN and whose last cell has a bag.", TakeTerms::whichInletIsReady);
        s.terms(16, "When the one at hand is READY and has turns left, it gives its bag, and has one less left.",
            TakeTerms::oneTurnLessForEachBag);
        s.terms(16, "Otherwise the next one by numbers (behind the last one the first) is at hand, with all its TURNS,"
            + " and the same is asked of it, and so on;", TakeTerms::theNextOneByNumbers);
        s.terms(16, "when all (the first one asked last once more, with all its TURNS) give none, none is taken,"
            + " and that one is at hand.", TakeTerms::whenAllGiveNone);
        s.terms(16, "SCREENS and SORTERS take from the lowest INLET, not FALLEN, whose last cell has a bag.",
            TakeTerms::screensAndSortersFromTheLowest);
        s.terms(16, "A STORE takes so, if it has room.", TakeTerms::aStoreTakesSo);
        s.terms(16, "A CHUTE takes from all INLETS, not FALLEN, by numbers.", TakeTerms::aChuteTakesFromAll);
        s.terms(11, "A bag that comes to the CHUTE of its flight before its CLOSE is LOADED,",
            TakeTerms::loadedBeforeItsClose);
        s.terms(11, "at its CLOSE or behind it LATE;", TakeTerms::lateAtItsCloseOrBehindIt);
        s.terms(11, "one that comes to another CHUTE is ASTRAY.", TakeTerms::astrayAtAnotherChute);
        s.terms(16, "(A bag that moved in (2) of this tick may be taken,", TakeTerms::movedBagsMayBeTaken);
        s.terms(16, "one that was given in (1) of it is not.)", TakeTerms::givenBagsAreNotTaken);
        s.terms(14, "Each time that a bag is given by a desk, or taken by a point, that is a STEP of its WAY:"
            + " THE TICK and the point.", TakeTerms::stepsOfAWay);
    }

    private static void allPointsTakeBehindBelts() {
        // Desks 5 to 9 lead to one point of each kind by a belt of two cells.
        BagHall x = Halls.of(Check.CHUTE, 0, Check.STORE, 1, Check.SORTER, 0, Check.SCREEN, 1, Check.MERGE, 0);
        for (int p = 0; p < 5; p++) {
            x.point(Check.DESK, 0);
        }
        x.flight(0, 0, 99);
        for (int p = 0; p < 5; p++) {
            x.belt(5 + p, p, 2);
            x.bag(5 + p, 0, false);
        }
        x.tick(1);
        Check.due("all are on belts", x.count(1), 5);
        x.tick(1);
        for (int p = 0; p < 5; p++) {
            Check.due("point " + p + " took in that TICK", x.place(p), p);
            Check.due("it is on no belt", x.where(p), p == 0 ? 5 : p == 1 ? 3 : 2);
            Check.due("at tick 1", x.detail(p), 1);
        }
        // (3) is behind (1): what is taken in a TICK is given in the next one at the earliest.
        for (int kind = Check.MERGE; kind <= Check.STORE; kind++) {
            BagHall y = Halls.deskTo(kind, 1);
            y.belt(1, 2, 1);
            y.bag(0, 0, false);
            y.tick(2);
            Check.due("taken by kind " + kind + ", it is not given on", y.place(0), 1);
            Check.due("it is at the point", y.cell(1, 0), Check.NONE);
            y.tick(1);
            Check.due("then it is", y.cell(1, 0), 0);
        }
    }

    private static void takesWhenItHoldsNone() {
        int[] kinds = {Check.MERGE, Check.SCREEN, Check.SORTER};
        for (int kind : kinds) {
            BagHall x = Halls.deskTo(kind, 1);
            x.belt(1, 2, 1);
            x.fall(1, true);
            Halls.bags(x, 0, 0, 3);
            x.tick(20);
            Check.due("kind " + kind + " holds the first", x.holds(1), 0);
            Check.due("the next one stays on the belt", x.cell(0, 0), 1);
            Check.due("it holds one alone", x.count(2), 1);
            x.take(0);
            Check.due("it holds none", x.holds(1), Check.NONE);
            x.tick(1);
            Check.due("then it takes", x.holds(1), 1);
            x.tick(5);
            x.fall(1, false);
            x.tick(1);
            Check.due("it gave in (1)", x.cell(1, 0), 1);
            Check.due("and held none in (3), so that it took", x.holds(1), 2);
        }
    }

    private static void aDeskTakesNever() {
        BagHall x = Halls.line(1, 0, 99);
        x.point(Check.DESK, 0);
        for (int p = 0; p < 6; p++) {
            Check.holds("no belt leads from " + p + " to a DESK", x.belt(p, 6, 1) == Check.KIND);
            Check.holds("none from " + p + " to desk 0", x.belt(p, 0, 1) == (p == 0 ? Check.SAME : Check.KIND));
        }
        x.bag(6, 0, false);
        x.tick(20);
        Check.due("desk 0 has none", x.list(0, -1), 0);
        Check.due("desk 6 has its own", x.list(6, -1), 1);
    }

    /** MERGE 3 with INLETS 0, 1, 2 of one cell from desks 0, 1, 2; OUTLET 3 of one cell to CHUTE 4; flight 0. */
    private static BagHall merge() {
        BagHall x = Halls.of(Check.DESK, 0, Check.DESK, 0, Check.DESK, 0, Check.MERGE, 0, Check.CHUTE, 0);
        Halls.belts(x, 0, 3, 1, 1, 3, 1, 2, 3, 1, 3, 4, 1);
        x.flight(4, 0, 5000);
        return x;
    }

    /** The same, with TURNS, and bags 0 to 19 at desk 0, 20 to 39 at 1, 40 to 59 at 2. */
    private static BagHall fullMerge(int first, int second, int third) {
        BagHall x = merge();
        x.turns(0, first);
        x.turns(1, second);
        x.turns(2, third);
        for (int desk = 0; desk < 3; desk++) {
            Halls.bags(x, desk, 0, 20);
        }
        return x;
    }

    /** From which INLETS the MERGE takes its next bags, a digit each, 1 to 3. */
    private static int nextInlets(BagHall x, int takes) {
        int digits = 0;
        for (int i = 0; i < takes; i++) {
            int bag = Check.nextHeld(x, 3, 3);
            digits = digits * 10 + (bag < 0 ? 0 : 1 + bag / 20);
        }
        return digits;
    }

    private static void turnsOfInlets() {
        BagHall x = merge();
        for (int belt = 0; belt < 3; belt++) {
            Check.due("1 at first", x.turns(belt, 0), 1);
            Check.due("0 is one", x.turns(belt, 9), 0);
            Check.due("9 is one", x.turns(belt, 1), 9);
            Check.due("-1 is none", x.turns(belt, -1), Check.BEYOND);
            Check.due("10 is none", x.turns(belt, 10), Check.BEYOND);
        }
        Check.due("1 at first: one each", nextInlets(fullMerge(1, 1, 1), 7), 1231231);
        BagHall y = merge();
        for (int desk = 0; desk < 3; desk++) {
            Halls.bags(y, desk, 0, 20);
        }
        Check.due("not set, they are 1", nextInlets(y, 7), 1231231);
        Check.due("nine of the first", nextInlets(fullMerge(9, 1, 0), 9), 111111111);
        BagHall nine = fullMerge(0, 9, 1);
        Check.due("nine of the second", nextInlets(nine, 9), 222222222);
        Check.due("then one of the third", nextInlets(nine, 2), 32);
        Check.due("none of those with 0", nextInlets(fullMerge(0, 0, 1), 5), 33333);
        BagHall none = fullMerge(0, 0, 0);
        none.tick(50);
        Check.due("all have 0: none is taken", none.holds(3), Check.NONE);
        Check.due("they stay on their belts", none.count(1), 3);
    }

    private static void theLowestIsAtHandAtFirst() {
        BagHall x = merge();
        x.bag(2, 0, false);
        x.bag(1, 0, false);
        x.bag(0, 0, false);
        x.tick(1);
        Check.due("all three wait for it", x.count(1), 3);
        x.tick(1);
        Check.due("the lowest gives", x.holds(3), 2);
        Check.due("with all its TURNS", nextInlets(fullMerge(4, 2, 3), 9), 111122333);
        // INLETS that come later are higher; the lowest of them all is at hand.
        BagHall y = Halls.of(Check.DESK, 0, Check.DESK, 0, Check.MERGE, 0, Check.CHUTE, 0);
        y.tick(5);
        Check.due("a MERGE without an INLET takes none", y.holds(2), Check.NONE);
        Halls.belts(y, 2, 3, 1, 1, 2, 1, 0, 2, 1);
        y.flight(3, 0, 99);
        y.bag(0, 0, false);
        y.bag(1, 0, false);
        y.tick(2);
        Check.due("belt 1 is the lowest INLET", y.holds(2), 1);
        y.tick(2);
        Check.due("then belt 2", y.holds(2), 0);
    }

    private static void whichInletIsReady() {
        BagHall x = fullMerge(1, 1, 1);
        x.fall(0, true);
        Check.due("FALLEN ones are not", nextInlets(x, 4), 2323);
        x.fall(0, false);
        Check.due("mended ones are", nextInlets(x, 3), 123);
        BagHall middle = fullMerge(1, 1, 1);
        middle.tick(1);
        middle.fall(1, true);
        Check.due("not one in the middle that has a bag and is FALLEN", nextInlets(middle, 5), 13131);
        BagHall fallenLater = merge();
        fallenLater.bag(0, 0, false);
        fallenLater.bag(1, 0, false);
        fallenLater.tick(1);
        fallenLater.fall(0, true);
        fallenLater.tick(1);
        Check.due("not one that fell with a bag in its last cell", fallenLater.holds(3), 1);
        BagHall all = fullMerge(1, 1, 1);
        all.tick(1);
        Halls.fall(all, true, 0, 1, 2);
        all.tick(9);
        Check.due("all are FALLEN: none is taken", all.holds(3), Check.NONE);
        BagHall y = Halls.of(Check.DESK, 0, Check.DESK, 0, Check.MERGE, 0);
        Halls.belts(y, 0, 2, 3, 1, 2, 2);
        y.point(Check.CHUTE, 0);
        y.flight(3, 0, 99);
        y.bag(0, 0, false);
        y.bag(1, 0, false);
        y.tick(2);
        Check.due("its bag is not in the last cell: the other", y.holds(2), 1);
        y.take(1);
        y.tick(1);
        Check.due("in its last cell it is", y.holds(2), 0);
        BagHall empty = merge();
        empty.tick(9);
        Check.due("without bags none is", empty.holds(3), Check.NONE);
    }

    private static void oneTurnLessForEachBag() {
        BagHall x = fullMerge(3, 2, 1);
        Check.due("three, two, one", nextInlets(x, 6), 111223);
        Check.due("and so on", nextInlets(x, 6), 111223);
        BagHall y = fullMerge(2, 1, 1);
        Check.due("one of two", nextInlets(y, 1), 1);
        Check.due("and one is left", nextInlets(y, 2), 12);
        Check.due("no turn goes while it holds a bag", nextInlets(y, 3), 311);
    }

    private static void theNextOneByNumbers() {
        Check.due("by numbers, behind the last the first", nextInlets(fullMerge(2, 1, 3), 9), 112333112);
        BagHall x = fullMerge(1, 2, 1);
        x.fall(1, true);
        Check.due("one that is not READY is passed over", nextInlets(x, 4), 1313);
        x.fall(1, false);
        Check.due("with all its TURNS, when it is at hand", nextInlets(x, 5), 12231);
        BagHall y = fullMerge(5, 1, 1);
        Check.due("two of five", nextInlets(y, 2), 11);
        y.fall(0, true);
        Check.due("it is not READY: the next ones", nextInlets(y, 2), 23);
        y.fall(0, false);
        Check.due("its TURNS are all left again", nextInlets(y, 7), 1111123);
        BagHall z = fullMerge(1, 0, 1);
        Check.due("one with TURNS 0 is passed over", nextInlets(z, 5), 13131);
        BagHall one = Halls.of(Check.DESK, 0, Check.MERGE, 0, Check.CHUTE, 0);
        Halls.belts(one, 0, 1, 1, 1, 2, 1);
        one.flight(2, 0, 99);
        Halls.bags(one, 0, 0, 5);
        for (int bag = 0; bag < 5; bag++) {
            Check.due("one INLET alone is the next one of itself", Check.nextHeld(one, 1, 1), bag);
        }
    }

    private static void whenAllGiveNone() {
        // INLET 0 has given one of three; then none is READY for a while.
        BagHall x = merge();
        x.turns(0, 3);
        x.bag(0, 0, false);
        x.tick(2);
        Check.due("one of three is given", x.holds(3), 0);
        x.tick(9);
        Halls.bags(x, 0, 0, 4);
        Halls.bags(x, 1, 0, 1);
        int[] due = {1, 2, 3, 5, 4};
        for (int bag : due) {
            Check.due("it is at hand, with all its TURNS", Check.nextHeld(x, 3, 3), bag);
        }
        // INLET 1 is the one asked first, and stays at hand though 0 is lower.
        BagHall y = merge();
        y.bag(1, 0, false);
        y.tick(2);
        Check.due("INLET 1 gave", y.holds(3), 0);
        y.tick(9);
        y.bag(0, 0, false);
        y.bag(1, 0, false);
        y.bag(2, 0, false);
        y.tick(2);
        Check.due("INLET 1 is still at hand, and once more gives", y.holds(3), 2);
        y.tick(2);
        Check.due("then INLET 2", y.holds(3), 3);
        y.tick(2);
        Check.due("then INLET 0", y.holds(3), 1);
        // The first one is asked last once more: it has no turns left, but all of them then.
        BagHall z = merge();
        Halls.bags(z, 0, 0, 3);
        for (int bag = 0; bag < 3; bag++) {
            Check.due("alone, it gives each time", Check.nextHeld(z, 3, 3), bag);
        }
        BagHall none = fullMerge(0, 0, 0);
        none.tick(9);
        none.turns(1, 1);
        none.tick(1);
        Check.due("TURNS 0 for all, then one has some", none.holds(3), 20);
        BagHall without = Halls.of(Check.MERGE, 0, Check.CHUTE, 0);
        without.belt(0, 1, 1);
        without.tick(9);
        Check.due("without an INLET none is taken", without.holds(0), Check.NONE);
        Check.due("nor given", without.cell(0, 0), Check.NONE);
    }

    /** Point 2 of the kind, with INLETS 0 and 1 of one cell from desks 0 and 1, OUTLET 2 to CHUTE 3; flight 0. */
    private static BagHall twoInlets(int kind, int v) {
        BagHall x = Halls.of(Check.DESK, 0, Check.DESK, 0, kind, v, Check.CHUTE, 0);
        Halls.belts(x, 0, 2, 1, 1, 2, 1, 2, 3, 1);
        x.flight(3, 0, 5000);
        return x;
    }

    private static void screensAndSortersFromTheLowest() {
        int[] kinds = {Check.SCREEN, Check.SORTER};
        for (int kind : kinds) {
            BagHall x = twoInlets(kind, 1);
            Halls.bags(x, 1, 0, 3);
            Halls.bags(x, 0, 0, 3);
            Check.due("kind " + kind + ", the lowest", Check.nextHeld(x, 2, 2), 3);
            Check.due("kind " + kind + ", no turns: the lowest again", Check.nextHeld(x, 2, 2), 4);
            x.fall(0, true);
            Check.due("kind " + kind + ", the lowest is FALLEN", Check.nextHeld(x, 2, 2), 0);
            x.fall(0, false);
            Check.due("kind " + kind + ", it is mended", Check.nextHeld(x, 2, 2), 5);
            Check.due("kind " + kind + ", the lowest has none", Check.nextHeld(x, 2, 2), 1);
            BagHall y = twoInlets(kind, 1);
            y.bag(0, 0, false);
            y.bag(1, 0, false);
            y.tick(1);
            Halls.fall(y, true, 0, 1);
            y.tick(9);
            Check.due("kind " + kind + ", all are FALLEN", y.holds(2), Check.NONE);
            Check.due("kind " + kind + ", the bags stay on them", y.cell(0, 0) + y.cell(1, 0), 1);
            y.fall(1, false);
            y.tick(1);
            Check.due("kind " + kind + ", the other one is mended", y.holds(2), 1);
            BagHall z = Halls.of(Check.DESK, 0, Check.DESK, 0, kind, 1, Check.CHUTE, 0);
            Halls.belts(z, 0, 2, 4, 1, 2, 2);
            z.flight(3, 0, 99);
            z.bag(0, 0, false);
            z.bag(1, 0, false);
            z.tick(2);
            Check.due("kind " + kind + ", the lowest has none in its last cell", z.holds(2), 1);
            z.tick(9);
            Check.due("kind " + kind + ", without an OUTLET", z.holds(2), 1);
            Check.due("kind " + kind + ", the other stays in its last cell", z.cell(0, 3), 0);
            BagHall first = Halls.of(Check.DESK, 0, Check.DESK, 0, kind, 1, Check.CHUTE, 0);
            Halls.belts(first, 0, 2, 4, 1, 2, 2);
            first.flight(3, 0, 99);
            first.bag(1, 0, false);
            first.tick(1);
            first.bag(0, 0, false);
            first.tick(1);
            Check.due("kind " + kind + ", the lowest has one in cell 0 alone", first.holds(2), 0);
            BagHall none = Halls.of(kind, 1, Check.CHUTE, 0);
            none.belt(0, 1, 1);
            none.tick(9);
            Check.due("kind " + kind + ", without an INLET", none.holds(0), Check.NONE);
        }
    }

    private static void aStoreTakesSo() {
        BagHall x = twoInlets(Check.STORE, 3);
        x.flight(3, 40, 5000);
        Halls.bags(x, 1, 1, 2);
        Halls.bags(x, 0, 1, 3);
        x.tick(2);
        Check.due("one a TICK", x.list(2, -1), 1);
        Check.due("from the lowest INLET", x.list(2, 0), 2);
        x.tick(1);
        Check.due("in the next TICK from the other", x.list(2, 1), 0);
        x.fall(0, true);
        x.tick(2);
        Check.due("not from a FALLEN one", x.list(2, 2), 1);
        x.fall(0, false);
        x.tick(10);
        Check.due("full, it takes none", x.list(2, -1), 3);
        Check.due("they stay on the belt", x.cell(0, 0), 3);
        x.take(0);
        x.tick(1);
        Check.due("with room again it takes", x.list(2, 2), 3);
        Check.due("it is full again", x.list(2, -1), 3);
        Halls.goTo(x, 40);
        x.tick(1);
        Check.due("it gave in (1)", x.cell(2, 0), 2);
        Check.due("and had room for the last one in (3)", x.list(2, 2), 4);
        Check.due("it is full once more", x.list(2, -1), 3);
        BagHall none = Halls.of(Check.STORE, 1, Check.CHUTE, 0);
        none.belt(0, 1, 1);
        none.tick(9);
        Check.due("without an INLET it is empty", none.list(0, -1), 0);
    }

    private static void aChuteTakesFromAll() {
        // Eleven desks, the most that can be, lead to CHUTE 11.
        BagHall x = new BagHall();
        for (int desk = 0; desk < 11; desk++) {
            x.point(Check.DESK, 0);
        }
        x.point(Check.CHUTE, 0);
        x.flight(11, 0, 5000);
        for (int desk = 0; desk < 11; desk++) {
            x.belt(desk, 11, 1);
            Halls.bags(x, desk, 0, 5);
        }
        x.tick(2);
        Check.due("all that are in last cells", x.count(5), 11);
        for (int desk = 0; desk < 11; desk++) {
            Check.due("at one tick", x.detail(5 * desk), 1);
        }
        x.tick(1);
        Halls.fall(x, true, 0, 10);
        x.tick(1);
        Check.due("but for the FALLEN ones", x.count(5), 20);
        Check.due("of these the bag stays: 0", x.cell(0, 0), 1);
        Check.due("of these the bag stays: 10", x.cell(10, 0), 51);
        Halls.fall(x, false, 0, 10);
        x.tick(30);
        Check.due("a CHUTE is never full", x.count(5), 55);
    }

    /** DESK 0 to CHUTE 1 by one cell, with a bag given at tick `at` - 1, so that it comes at tick `at`. */
    private static BagHall comesAt(int at, int opening, int close) {
        BagHall x = Halls.of(Check.DESK, 0, Check.CHUTE, 0, Check.CHUTE, 0);
        x.belt(0, 1, 1);
        x.flight(1, opening, close);
        Halls.goTo(x, at - 1);
        x.bag(0, 0, false);
        x.tick(2);
        Check.due("it comes at", x.detail(0), at);
        return x;
    }

    private static void loadedBeforeItsClose() {
        Check.due("one tick before", comesAt(7, 0, 8).where(0), 5);
        Check.due("long before", comesAt(1, 0, 5000).where(0), 5);
        Check.due("before the last CLOSE", comesAt(4999, 0, 5000).where(0), 5);
        Check.due("before its OPENING, too", comesAt(2, 3, 3).where(0), 5);
        BagHall x = comesAt(7, 0, 8);
        x.tick(5);
        Check.due("it stays LOADED behind its CLOSE", x.where(0), 5);
        Check.due("at the CHUTE", x.place(0), 1);
        Check.due("one of its flight", x.flown(0, 3), 1);
    }

    private static void lateAtItsCloseOrBehindIt() {
        Check.due("at its CLOSE", comesAt(8, 0, 8).where(0), 6);
        Check.due("one tick behind", comesAt(9, 0, 8).where(0), 6);
        Check.due("at the last CLOSE", comesAt(5000, 0, 5000).where(0), 6);
        Check.due("behind the last CLOSE", comesAt(5001, 0, 5000).where(0), 6);
        Check.due("a CLOSE of 0", comesAt(1, 0, 0).where(0), 6);
        BagHall x = comesAt(8, 0, 8);
        Check.due("at the CHUTE", x.place(0), 1);
        Check.due("one of its flight", x.flown(0, 4), 1);
        Check.due("none LOADED", x.flown(0, 3), 0);
    }

    private static void astrayAtAnotherChute() {
        int[] closes = {0, 1, 2, 5000};
        for (int close : closes) {
            BagHall x = Halls.of(Check.DESK, 0, Check.CHUTE, 0, Check.CHUTE, 0);
            x.belt(0, 1, 1);
            x.flight(2, 0, close);
            x.bag(0, 0, false);
            x.tick(2);
            Check.due("its flight has another CHUTE, close " + close, x.where(0), 7);
            Check.due("it is at that CHUTE", x.place(0), 1);
            Check.due("one of its flight", x.flown(0, 5), 1);
        }
        BagHall y = Halls.of(Check.DESK, 0, Check.CHUTE, 0, Check.CHUTE, 0);
        y.belt(0, 1, 1);
        y.flight(1, 0, 99);
        y.flight(2, 0, 99);
        y.flight(1, 0, 0);
        for (int flight = 0; flight < 3; flight++) {
            y.bag(0, flight, false);
        }
        y.tick(9);
        Check.due("its own CHUTE", y.where(0), 5);
        Check.due("another one, though a flight has it", y.where(1), 7);
        Check.due("its own CHUTE, two flights have it", y.where(2), 6);
    }

    private static void movedBagsMayBeTaken() {
        for (int kind = Check.MERGE; kind <= Check.CHUTE; kind++) {
            BagHall x = Halls.of(Check.DESK, 0, kind, 1, Check.CHUTE, 0);
            x.belt(0, 1, 2);
            x.flight(2, 0, 99);
            x.bag(0, 0, false);
            x.tick(1);
            Check.due("kind " + kind + ": it is in cell 0", x.cell(0, 0), 0);
            x.tick(1);
            Check.due("kind " + kind + ": it moves, and is taken", x.place(0), 1);
            Check.due("kind " + kind + ": it left the belt", x.cell(0, 1), Check.NONE);
            Check.due("kind " + kind + ": in that TICK", x.detail(0), 1);
        }
    }

    private static void givenBagsAreNotTaken() {
        for (int kind = Check.MERGE; kind <= Check.CHUTE; kind++) {
            BagHall x = Halls.of(Check.DESK, 0, kind, 1, Check.CHUTE, 0);
            x.belt(0, 1, 1);
            x.flight(2, 0, 99);
            x.bag(0, 0, false);
            x.tick(1);
            Check.due("kind " + kind + ": in a belt of one cell it lies", x.cell(0, 0), 0);
            x.tick(1);
            Check.due("kind " + kind + ": in the next TICK it is taken", x.detail(0), 1);
        }
        // One that was given makes its INLET not READY: the next one gives.
        for (int kind = Check.MERGE; kind <= Check.STORE; kind++) {
            BagHall y = twoInlets(kind, 1);
            y.bag(1, 0, false);
            y.tick(1);
            y.bag(0, 0, false);
            y.tick(1);
            Check.due("kind " + kind + ": bag 1 is given, bag 0 is taken", y.place(0), 2);
            Check.due("kind " + kind + ": bag 1 lies", y.cell(0, 0), 1);
        }
        // The same of a MERGE with turns left for the INLET that is not READY.
        BagHall turns = twoInlets(Check.MERGE, 0);
        turns.turns(0, 2);
        turns.bag(0, 0, false);
        turns.fall(2, true);
        turns.tick(2);
        turns.bag(1, 0, false);
        turns.tick(2);
        Check.due("bag 0 is held, INLET 0 has a turn left", turns.holds(2), 0);
        turns.fall(2, false);
        turns.bag(0, 0, false);
        turns.tick(1);
        Check.due("bag 2 is given, bag 1 is taken", turns.holds(2), 1);
        for (int kind = Check.MERGE; kind <= Check.STORE; kind++) {
            BagHall z = Halls.deskTo(kind, 1);
            z.belt(1, 2, 1);
            z.bag(0, 0, false);
            z.tick(3);
            Check.due("given by kind " + kind + ", it is not taken by the CHUTE", z.cell(1, 0), 0);
            z.tick(1);
            Check.due("then it is", z.where(0), 5);
        }
    }

    private static void stepsOfAWay() {
        BagHall x = Halls.line(3, 0, 99);
        x.bag(0, 0, false);
        int[] ticks = {0, 2, 5, 8, 11, 14};
        for (int i = 0; i <= 5; i++) {
            Halls.goTo(x, ticks[i]);
            Check.due("no step yet at tick " + ticks[i], x.steps(0), i);
            x.tick(1);
            Check.due("a step in that TICK", x.steps(0), i + 1);
            Check.due("its point", x.step(0, i, false), i);
            Check.due("its tick", x.step(0, i, true), ticks[i]);
        }
        BagHall y = Halls.line(3, 0, 99);
        y.bag(0, 0, false);
        y.bag(0, 0, false);
        y.tick(2);
        y.take(0);
        y.give(0, 0, false);
        Check.due("neither a hand's taking nor its giving is one", y.steps(0), 1);
        y.tick(1);
        Check.due("bag 1 goes first", y.steps(1), 1);
        y.tick(2);
        Check.due("a desk's giving is one, each time", y.steps(0), 2);
        Check.due("at that desk", y.step(0, 1, false), 0);
        Check.due("at that tick", y.step(0, 1, true), 4);
    }
}
