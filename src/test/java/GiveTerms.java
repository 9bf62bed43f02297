/** The sentences of the Terms on (1), how points give, and (2), how belts move. */
final class GiveTerms {
    private GiveTerms() {
    }

    static void addTo(Sentences s) {
        s.terms(16, "A TICK goes so, and THE TICK is one more behind it:", GiveTerms::theTickIsOneMoreBehindIt);
        s.terms(16, "(1) Points give, by numbers.", GiveTerms::allPointsGiveAheadOfBelts);
        s.terms(16, "A DESK, that has bags waiting: the first of these comes to cell 0", GiveTerms::deskGivesItsFirst);
        s.terms(16, "of its lowest OUTLET that is not FALLEN,", GiveTerms::deskByItsLowestSoundOutlet);
        s.terms(16, "when that cell is free.", GiveTerms::deskWaitsForTheCell);
        s.terms(16, "A MERGE: what it holds goes likewise.", GiveTerms::mergeGivesLikewise);
        s.terms(16, "A SCREEN: what it holds, when THE TICK is its TICKS at least above that at which it was taken,",
            GiveTerms::screenHoldsForItsTicks);
        s.terms(16, "goes to its lowest OUTLET;", GiveTerms::screenByItsLowestOutlet);
        s.terms(16, "a DOUBTFUL one to its second lowest, if it has two;", GiveTerms::doubtfulByTheSecondLowest);
        s.terms(16, "when that belt is not FALLEN and its cell 0 is free.", GiveTerms::screenWaitsForThatBelt);
        s.terms(16, "A SORTER: what it holds goes to that OUTLET, not FALLEN, for which its cells and FAR of the point"
            + " behind it, to the CHUTE of the bag's flight, are together least", GiveTerms::sorterByTheLeastSum);
        s.terms(16, "(of several the lowest),", GiveTerms::sorterOfSeveralTheLowest);
        s.terms(16, "when that has its cell 0 free;", GiveTerms::sorterWaitsForThatCell);
        s.terms(16, "it waits, when there is none such.", GiveTerms::sorterWaitsWithoutAWay);
        s.terms(16, "A STORE: of its bags whose flight's OPENING is not above THE TICK the one that came first",
            GiveTerms::storeGivesTheFirstThatIsOpen);
        s.terms(16, "(of two at one tick the lower bag)", GiveTerms::noTwoComeToAStoreAtOneTick);
        s.terms(16, "goes to its lowest OUTLET that is not FALLEN,", GiveTerms::storeByItsLowestSoundOutlet);
        s.terms(16, "when that has its cell 0 free.", GiveTerms::storeWaitsForThatCell);

        s.terms(16, "(2) Belts that are not FALLEN move, by numbers:", GiveTerms::fallenBeltsRest);
        s.terms(16, "from the last cell but one back to cell 0, each bag goes on a cell when that is free",
            GiveTerms::eachGoesOnWhenTheNextCellIsFree);
        s.terms(16, "(so all of a row without gaps go, if its first can);", GiveTerms::aRowGoesAsOne);
        s.terms(16, "a bag that was given in (1) of this tick does not move.", GiveTerms::givenBagsDoNotMove);
    }

    private static void theTickIsOneMoreBehindIt() {
        BagHall x = Halls.deskTo(Check.MERGE, 0);
        for (int i = 1; i <= 5; i++) {
            Check.due("tick(1), the " + i + ".", x.tick(1), i);
            Check.due("THE TICK", x.count(13), i);
        }
        x.bag(0, 0, false);
        x.tick(1);
        Check.due("in the TICK it is the one ahead", x.step(0, 0, true), 5);
        Check.due("behind it one more", x.count(13), 6);
        BagHall empty = new BagHall();
        Check.due("a hall without points", empty.tick(3), 3);
    }

    private static void allPointsGiveAheadOfBelts() {
        BagHall x = loadedHall();
        for (int p = 0; p < 5; p++) {
            Check.due("bag " + p + " is at point " + p, x.place(p), p);
            Check.due("not on a belt", x.where(p), p == 0 ? 0 : p == 4 ? 3 : 2);
        }
        Halls.fall(x, false, 4, 5, 6, 7, 8);
        x.tick(1);
        for (int p = 0; p < 5; p++) {
            Check.due("point " + p + " gave in that TICK", x.cell(4 + p, 0), p);
        }
        // (1) is ahead of (2): cell 0 is not free in (1), though its bag goes on in (2).
        BagHall y = Halls.of(Check.DESK, 0, Check.CHUTE, 0);
        y.belt(0, 1, 5);
        y.flight(1, 0, 99);
        Halls.bags(y, 0, 0, 3);
        int[] waiting = {2, 2, 1, 1, 0};
        for (int i = 0; i < waiting.length; i++) {
            y.tick(1);
            Check.due("so many wait behind " + (i + 1), y.list(0, -1), waiting[i]);
        }
        // (1) is ahead of (3): a point gives, and takes in the same TICK.
        BagHall z = Halls.deskTo(Check.MERGE, 0);
        z.belt(1, 2, 3);
        Halls.bags(z, 0, 0, 2);
        z.fall(1, true);
        z.tick(4);
        z.fall(1, false);
        z.tick(1);
        Check.due("it gave bag 0", z.cell(1, 0), 0);
        Check.due("and took bag 1", z.holds(1), 1);
        // A point that holds none, or has no bags waiting, gives none.
        BagHall none = Halls.line(1, 0, 9);
        none.tick(20);
        for (int belt = 0; belt < 5; belt++) {
            Check.due("belt " + belt + " stays free", none.cell(belt, 0), Check.NONE);
        }
    }

    /** Bag p is at point p, for 0 to 4; belts 0 to 3 lead from the desk to 1 to 4, 4 to 8 from 0 to 4 to CHUTE 5; all FALLEN. */
    private static BagHall loadedHall() {
        BagHall x = Halls.oneOfEach();
        Halls.belts(x, 0, 1, 1, 0, 2, 1, 0, 3, 1, 0, 4, 1);
        Halls.belts(x, 0, 5, 1, 1, 5, 1, 2, 5, 1, 3, 5, 1, 4, 5, 1);
        x.flight(5, 0, 5000);
        Halls.bags(x, 0, 0, 5);
        Halls.fall(x, true, 0, 1, 2, 3, 4, 5, 6, 7, 8);
        x.take(0);
        for (int p = 1; p < 5; p++) {
            x.fall(p - 1, false);
            x.tick(1);
            for (int later = p + 1; later < 5; later++) {
                x.take(later);
            }
            x.tick(1);
            for (int later = p + 1; later < 5; later++) {
                x.give(later, 0, false);
            }
            x.fall(p - 1, true);
        }
        x.give(0, 0, false);
        x.tick(1);
        return x;
    }

    private static void deskGivesItsFirst() {
        BagHall x = Halls.of(Check.DESK, 0, Check.CHUTE, 0);
        x.belt(0, 1, 3);
        x.flight(1, 0, 99);
        x.tick(2);
        Check.due("none waits, none comes", x.cell(0, 0), Check.NONE);
        Halls.bags(x, 0, 0, 3);
        x.take(0);
        x.give(0, 0, false);
        x.tick(1);
        Check.due("the first that waits", x.cell(0, 0), 1);
        Check.due("one alone", x.count(1), 1);
        Check.due("then it is the next one's turn", x.list(0, 0), 2);
        x.take(2);
        x.tick(2);
        Check.due("bag 2 was taken: bag 0", x.cell(0, 0), 0);
        Check.due("none waits any more", x.list(0, -1), 0);
        x.tick(5);
        Check.due("none waits, none comes again", x.cell(0, 0), Check.NONE);
        Check.due("none came again", x.steps(0), 2);
    }

    private static void deskByItsLowestSoundOutlet() {
        BagHall x = Halls.of(Check.DESK, 0, Check.CHUTE, 0, Check.CHUTE, 0);
        x.flight(1, 0, 99);
        Halls.bags(x, 0, 0, 4);
        x.tick(3);
        Check.due("without an OUTLET all wait", x.list(0, -1), 4);
        Halls.belts(x, 0, 2, 1, 0, 1, 1, 0, 2, 1);
        x.tick(1);
        Check.due("the lowest", x.cell(0, 0), 0);
        x.fall(0, true);
        x.tick(1);
        Check.due("the lowest is FALLEN: the next", x.cell(1, 0), 1);
        x.fall(1, true);
        x.tick(1);
        Check.due("two are FALLEN: the third", x.cell(2, 0), 2);
        x.fall(2, true);
        x.tick(3);
        Check.due("all are FALLEN: it waits", x.list(0, -1), 1);
        x.take(0);
        x.fall(0, false);
        x.tick(1);
        Check.due("mended: the lowest again", x.cell(0, 0), 3);
    }

    private static void deskWaitsForTheCell() {
        BagHall x = Halls.of(Check.DESK, 0, Check.SORTER, 0, Check.CHUTE, 0);
        Halls.belts(x, 0, 1, 1, 0, 2, 1);
        x.flight(2, 0, 9);
        Halls.bags(x, 0, 0, 3);
        x.tick(3);
        Check.due("cell 0 of the lowest is not free", x.cell(0, 0), 1);
        x.tick(5);
        Check.due("it waits", x.list(0, 0), 2);
        Check.due("though another OUTLET is free", x.cell(1, 0), Check.NONE);
        x.take(1);
        x.tick(1);
        Check.due("when the cell is free, it comes", x.cell(0, 0), 2);
    }

    private static void mergeGivesLikewise() {
        BagHall x = Halls.deskTo(Check.MERGE, 0);
        Halls.bags(x, 0, 0, 5);
        x.tick(5);
        Check.due("without an OUTLET it holds", x.holds(1), 0);
        x.point(Check.SORTER, 0);
        Halls.belts(x, 1, 3, 1, 1, 2, 1, 1, 2, 12);
        x.fall(1, true);
        x.tick(1);
        Check.due("the lowest that is not FALLEN", x.cell(2, 0), 0);
        Halls.fall(x, true, 2, 3);
        x.tick(5);
        Check.due("all are FALLEN: it holds", x.holds(1), 1);
        x.fall(1, false);
        x.tick(1);
        Check.due("the lowest", x.cell(1, 0), 1);
        x.tick(4);
        // The sorter, which has no OUTLET, holds bag 1; bag 2 lies on belt 1; belt 3 is sound and free.
        Halls.fall(x, false, 2, 3);
        x.tick(5);
        Check.due("cell 0 of the lowest is not free", x.cell(1, 0), 2);
        Check.due("it holds, though others are free", x.holds(1), 3);
        Check.due("belt 3 is one of these", x.cell(3, 0), Check.NONE);
        x.take(2);
        x.tick(1);
        Check.due("when the cell is free, it goes", x.cell(1, 0), 3);
    }

    private static void screenHoldsForItsTicks() {
        int[] some = {1, 2, 9};
        for (int ticks : some) {
            BagHall x = Halls.deskTo(Check.SCREEN, ticks);
            x.belt(1, 2, 1);
            x.tick(7);
            x.bag(0, 0, false);
            Halls.goTo(x, 8 + ticks);
            // Given at 7, taken at 8: it may go in the TICK at which THE TICK is 8 + ticks.
            Check.due(ticks + ": one less is too few", x.holds(1), 0);
            x.tick(1);
            Check.due(ticks + ": just as many", x.cell(1, 0), 0);
            BagHall y = Halls.deskTo(Check.SCREEN, ticks);
            y.belt(1, 2, 1);
            y.fall(1, true);
            y.bag(0, 0, false);
            y.tick(30);
            Check.due(ticks + ": it waits for its belt", y.holds(1), 0);
            y.fall(1, false);
            y.tick(1);
            Check.due(ticks + ": more than its TICKS do as well", y.cell(1, 0), 0);
        }
    }

    /** SCREEN 1 of one tick with so many OUTLETS, of three cells, from belt 1 on; it holds bag 0. */
    private static BagHall screenWith(boolean doubtful, int outlets) {
        BagHall x = Halls.deskTo(Check.SCREEN, 1);
        for (int i = 0; i < outlets; i++) {
            x.belt(1, 2, 3);
        }
        x.bag(0, 0, doubtful);
        x.tick(2);
        return x;
    }

    private static void screenByItsLowestOutlet() {
        for (int outlets = 1; outlets <= 3; outlets++) {
            BagHall x = screenWith(false, outlets);
            Check.due("it holds the bag", x.holds(1), 0);
            x.tick(1);
            Check.due("the lowest of " + outlets, x.cell(1, 0), 0);
        }
        BagHall y = screenWith(false, 0);
        y.tick(9);
        Check.due("without an OUTLET it holds", y.holds(1), 0);
        Check.due("a new OUTLET", y.belt(1, 2, 1), 1);
        y.tick(1);
        Check.due("then it goes", y.cell(1, 0), 0);
    }

    private static void doubtfulByTheSecondLowest() {
        int[] due = {1, 2, 2, 2};
        for (int outlets = 1; outlets <= 4; outlets++) {
            BagHall x = screenWith(true, outlets);
            Check.due("it holds the bag", x.holds(1), 0);
            x.tick(1);
            Check.due("DOUBTFUL, of " + outlets, x.cell(due[outlets - 1], 0), 0);
        }
        for (int outlets = 2; outlets <= 3; outlets++) {
            BagHall y = screenWith(true, outlets);
            y.fall(1, true);
            y.tick(1);
            Check.due("the second lowest of " + outlets + ", though the lowest is FALLEN", y.cell(2, 0), 0);
        }
        BagHall z = screenWith(true, 0);
        z.tick(9);
        Check.due("DOUBTFUL, without an OUTLET it is held", z.holds(1), 0);
        // SCREEN 0 has one OUTLET, belt 0, of all belts that there can be, and of a few.
        int[] others = {2, 15};
        for (int more : others) {
            BagHall x = Halls.of(Check.SCREEN, 1, Check.CHUTE, 0, Check.DESK, 0);
            x.belt(0, 1, 3);
            for (int i = 0; i < more; i++) {
                x.belt(2, 0, 1);
            }
            x.flight(1, 0, 99);
            x.bag(2, 0, true);
            x.tick(3);
            Check.due("DOUBTFUL, one OUTLET of " + (1 + more) + " belts", x.cell(0, 0), 0);
        }
    }

    private static void screenWaitsForThatBelt() {
        BagHall x = screenWith(false, 3);
        x.fall(1, true);
        x.tick(9);
        Check.due("FALLEN: it waits, though others are sound", x.holds(1), 0);
        x.fall(1, false);
        x.tick(1);
        Check.due("mended: it goes", x.cell(1, 0), 0);
        BagHall y = screenWith(true, 3);
        y.fall(2, true);
        y.tick(9);
        Check.due("DOUBTFUL, FALLEN: it waits", y.holds(1), 0);
        y.fall(2, false);
        y.tick(1);
        Check.due("DOUBTFUL, mended: it goes", y.cell(2, 0), 0);
        for (int i = 0; i < 2; i++) {
            boolean doubtful = i == 1;
            int outlet = doubtful ? 2 : 1;
            BagHall z = Halls.of(Check.DESK, 0, Check.SCREEN, 1, Check.CHUTE, 0, Check.SORTER, 0);
            // Belt 1 or, for DOUBTFUL ones, 2 leads to the sorter, which has no OUTLET.
            Halls.belts(z, 0, 1, 1, 1, doubtful ? 2 : 3, 1, 1, doubtful ? 3 : 2, 1);
            z.flight(2, 0, 99);
            for (int bag = 0; bag < 3; bag++) {
                z.bag(0, 0, doubtful);
            }
            z.tick(30);
            Check.due("its cell 0 is not free", z.cell(outlet, 0), 1);
            Check.due("it waits, though the other is free", z.holds(1), 2);
            z.take(1);
            z.tick(1);
            Check.due("when that is free, it goes", z.cell(outlet, 0), 2);
        }
    }

    /** SORTER 1 that holds bag 0; belts 1 to 3 lead to CHUTE 2 by 4, 3, and (by MERGE 3) 1 + 1 cells, 5 to CHUTE 4. */
    private static BagHall sorter() {
        BagHall x = Halls.of(Check.DESK, 0, Check.SORTER, 0, Check.CHUTE, 0, Check.MERGE, 0, Check.CHUTE, 0);
        Halls.belts(x, 0, 1, 1, 1, 2, 4, 1, 2, 3, 1, 3, 1, 3, 2, 1, 1, 4, 1);
        x.flight(2, 0, 99);
        x.flight(4, 0, 99);
        return x;
    }

    private static int sentBy(BagHall x) {
        x.tick(2);
        Check.due("the sorter holds the bag", x.holds(1), 0);
        x.tick(1);
        return x.where(0) == 1 ? x.place(0) : Check.NONE;
    }

    private static void sorterByTheLeastSum() {
        BagHall x = sorter();
        x.bag(0, 0, false);
        Check.due("1 + 1 is less than 3 and 4", sentBy(x), 3);
        x = sorter();
        x.fall(3, true);
        x.bag(0, 0, false);
        Check.due("the OUTLET of the least is FALLEN", sentBy(x), 2);
        x = sorter();
        x.fall(4, true);
        x.bag(0, 0, false);
        Check.due("the way behind it is FALLEN", sentBy(x), 2);
        x = sorter();
        Halls.fall(x, true, 2, 4);
        x.bag(0, 0, false);
        Check.due("the longest alone is left", sentBy(x), 1);
        x = sorter();
        x.bag(0, 1, false);
        Check.due("the CHUTE of the bag's flight", sentBy(x), 5);
        x = sorter();
        x.bag(0, 1, false);
        x.tick(2);
        x.fall(5, true);
        x.tick(3);
        Check.due("not to the CHUTE of another flight", x.holds(1), 0);
        // A short OUTLET with a long way behind it, and a long one straight there.
        int[][] outlets = {{1, 2, 3, 1, 3, 1, 3, 2, 9}, {1, 3, 1, 3, 2, 9, 1, 2, 3}};
        int[] due = {1, 3};
        for (int i = 0; i < 2; i++) {
            BagHall y = Halls.of(Check.DESK, 0, Check.SORTER, 0, Check.CHUTE, 0, Check.STORE, 1);
            y.belt(0, 1, 1);
            Halls.belts(y, outlets[i]);
            y.flight(2, 0, 99);
            y.bag(0, 0, false);
            Check.due("3 is less than 1 + 9", sentBy(y), due[i]);
        }
    }

    private static void sorterOfSeveralTheLowest() {
        BagHall x = Halls.of(Check.DESK, 0, Check.SORTER, 0, Check.CHUTE, 0, Check.MERGE, 0);
        Halls.belts(x, 0, 1, 1, 1, 2, 4, 1, 3, 1, 1, 2, 3, 3, 2, 2, 1, 2, 3);
        x.flight(2, 0, 99);
        x.bag(0, 0, false);
        Check.due("belts 2, 3 and 5 are three far", sentBy(x), 2);
        BagHall y = Halls.of(Check.DESK, 0, Check.SORTER, 0, Check.CHUTE, 0, Check.MERGE, 0);
        Halls.belts(y, 0, 1, 1, 3, 2, 2, 1, 2, 3, 1, 3, 1);
        y.flight(2, 0, 99);
        y.bag(0, 0, false);
        Check.due("belts 2 and 3 are three far", sentBy(y), 2);
    }

    private static void sorterWaitsForThatCell() {
        BagHall x = Halls.of(Check.DESK, 0, Check.SORTER, 0, Check.CHUTE, 0, Check.MERGE, 0);
        Halls.belts(x, 0, 1, 1, 1, 3, 1, 3, 2, 1, 1, 2, 9);
        x.flight(2, 0, 99);
        Halls.bags(x, 0, 0, 3);
        x.turns(1, 0);
        x.tick(20);
        Check.due("its cell 0 is not free", x.cell(1, 0), 0);
        Check.due("it waits", x.holds(1), 1);
        Check.due("though another OUTLET leads there", x.cell(3, 0), Check.NONE);
        x.take(0);
        x.tick(1);
        Check.due("when that is free, it goes", x.cell(1, 0), 1);
    }

    private static void sorterWaitsWithoutAWay() {
        BagHall x = Halls.deskTo(Check.SORTER, 0);
        x.bag(0, 0, false);
        x.tick(9);
        Check.due("without an OUTLET", x.holds(1), 0);
        x.point(Check.CHUTE, 0);
        x.point(Check.STORE, 9);
        Halls.belts(x, 1, 3, 1, 1, 4, 1);
        x.tick(9);
        Check.due("OUTLETS that do not lead there", x.holds(1), 0);
        Check.due("a way", x.belt(4, 2, 5), 3);
        x.fall(3, true);
        x.tick(9);
        Check.due("a FALLEN way", x.holds(1), 0);
        x.fall(3, false);
        x.tick(1);
        Check.due("a way that is mended", x.cell(2, 0), 0);
    }

    /** STORE 1 with OUTLETS 1 and 2 to CHUTE 2; bag and flight i have the i-th OPENING. */
    private static BagHall store(int room, int... openings) {
        BagHall x = Halls.of(Check.DESK, 0, Check.STORE, room, Check.CHUTE, 0);
        Halls.belts(x, 0, 1, 1, 1, 2, 1, 1, 2, 1);
        for (int i = 0; i < openings.length; i++) {
            x.flight(2, openings[i], 5000);
            x.bag(0, i, false);
        }
        return x;
    }

    private static void storeGivesTheFirstThatIsOpen() {
        int[] openings = {3, 17, 4999, 5000};
        for (int opening : openings) {
            BagHall x = store(5, opening);
            Halls.goTo(x, opening);
            Check.due("below its OPENING " + opening, x.where(0), 3);
            x.tick(1);
            Check.due("at its OPENING " + opening, x.cell(1, 0), 0);
        }
        BagHall y = store(5, 0);
        y.tick(2);
        Check.due("it lies in the store first", y.where(0), 3);
        y.tick(1);
        Check.due("behind its OPENING it goes at once", y.where(0), 1);
        BagHall z = store(5, 40, 20, 20, 10);
        z.tick(10);
        Check.due("four lie there, none is open", z.list(1, -1), 4);
        z.tick(1);
        Check.due("the last is the first to be open", z.cell(1, 0), 3);
        Halls.goTo(z, 21);
        Check.due("of two that are open, the one that came first", z.cell(1, 0), 1);
        Halls.goTo(z, 23);
        Check.due("then the other", z.cell(1, 0), 2);
        Halls.goTo(z, 40);
        Check.due("one that is not open stays", z.where(0), 3);
        z.tick(1);
        Check.due("until it is", z.cell(1, 0), 0);
        z.tick(9);
        Check.due("an empty store gives none", z.count(5), 4);
    }

    /** A STORE takes one bag a TICK ("takes so"), so the lower bag never has to be looked for. */
    private static void noTwoComeToAStoreAtOneTick() {
        BagHall x = Halls.of(Check.DESK, 0, Check.DESK, 0, Check.STORE, 5, Check.CHUTE, 0);
        Halls.belts(x, 0, 2, 1, 1, 2, 1, 2, 3, 1);
        x.flight(3, 9, 99);
        // The higher bag is on the lower INLET; both are at the last cell at tick 1.
        x.bag(1, 0, false);
        x.bag(0, 0, false);
        x.tick(3);
        Check.due("bag 1 came at", x.detail(1), 1);
        Check.due("bag 0 came at another tick", x.detail(0), 2);
        Check.due("list, first", x.list(2, 0), 1);
        Check.due("list, second", x.list(2, 1), 0);
        Halls.goTo(x, 10);
        Check.due("the one that came first goes first", x.cell(2, 0), 1);
        // Two of one desk, the lower behind the higher: by coming, not by number.
        BagHall y = store(5, 20, 20);
        y.take(0);
        y.give(0, 0, false);
        y.tick(10);
        Check.due("1 came first", y.list(1, 0), 1);
        Check.due("0 came behind it", y.list(1, 1), 0);
        Halls.goTo(y, 21);
        Check.due("1 goes first", y.cell(1, 0), 1);
    }

    private static void storeByItsLowestSoundOutlet() {
        BagHall x = store(5, 5, 5);
        x.tick(6);
        Check.due("the lowest", x.cell(1, 0), 0);
        x.fall(1, true);
        x.tick(1);
        Check.due("the lowest is FALLEN: the next", x.cell(2, 0), 1);
        BagHall y = store(5, 5);
        Halls.fall(y, true, 1, 2);
        y.tick(20);
        Check.due("all are FALLEN: it stays", y.where(0), 3);
        y.fall(2, false);
        y.tick(1);
        Check.due("one is mended", y.cell(2, 0), 0);
        BagHall z = Halls.deskTo(Check.STORE, 5);
        z.bag(0, 0, false);
        z.tick(20);
        Check.due("without an OUTLET it stays", z.where(0), 3);
    }

    private static void storeWaitsForThatCell() {
        BagHall x = Halls.of(Check.DESK, 0, Check.STORE, 5, Check.CHUTE, 0, Check.SORTER, 0);
        Halls.belts(x, 0, 1, 1, 1, 3, 1, 1, 2, 1);
        x.flight(2, 0, 99);
        Halls.bags(x, 0, 0, 4);
        x.tick(30);
        // The sorter, which has no OUTLET, holds bag 0.
        Check.due("cell 0 of the lowest is not free", x.cell(1, 0), 1);
        Check.due("the others stay", x.list(1, -1), 2);
        Check.due("though another OUTLET is free", x.cell(2, 0), Check.NONE);
        x.take(1);
        x.tick(1);
        Check.due("when that is free, the next goes", x.cell(1, 0), 2);
        Check.due("one a TICK", x.list(1, -1), 1);
    }

    private static void fallenBeltsRest() {
        BagHall x = Halls.of(Check.DESK, 0, Check.DESK, 0, Check.CHUTE, 0);
        Halls.belts(x, 0, 2, 6, 1, 2, 6);
        x.flight(2, 0, 99);
        x.bag(0, 0, false);
        x.bag(1, 0, false);
        x.tick(2);
        x.fall(0, true);
        x.tick(3);
        Check.due("FALLEN, it does not move", x.cell(0, 1), 0);
        Check.due("the other moves", x.cell(1, 4), 1);
        x.fall(0, false);
        x.tick(1);
        Check.due("mended, it moves", x.cell(0, 2), 0);
        Check.due("the other was taken", x.where(1), 5);
        x.tick(2);
        x.fall(0, true);
        x.tick(5);
        Check.due("FALLEN once more", x.cell(0, 4), 0);
    }

    /** A desk, a belt of so many cells, and a sorter that holds bag 0 for ever: the belt is full. */
    private static BagHall fullBelt(int cells) {
        BagHall x = Halls.of(Check.DESK, 0, Check.SORTER, 0, Check.CHUTE, 0);
        x.belt(0, 1, cells);
        x.flight(2, 0, 99);
        Halls.bags(x, 0, 0, cells + 1);
        x.tick(50);
        return x;
    }

    private static void eachGoesOnWhenTheNextCellIsFree() {
        BagHall x = fullBelt(5);
        // Cells 0 to 4 have bags 5, 4, 3, 2, 1.
        x.tick(9);
        for (int cell = 0; cell < 5; cell++) {
            Check.due("no cell is free, none moves: " + cell, x.cell(0, cell), 5 - cell);
        }
        x.take(3);
        x.tick(1);
        int[] due = {Check.NONE, 5, 4, 2, 1};
        for (int cell = 0; cell < 5; cell++) {
            Check.due("cell 2 was free, cell " + cell, x.cell(0, cell), due[cell]);
        }
        x.take(1);
        x.tick(1);
        int[] next = {Check.NONE, Check.NONE, 5, 4, 2};
        for (int cell = 0; cell < 5; cell++) {
            Check.due("the last was free, cell " + cell, x.cell(0, cell), next[cell]);
        }
        BagHall y = fullBelt(2);
        y.take(1);
        y.tick(1);
        Check.due("from cell 0 to the last one", y.cell(0, 1), 2);
        Check.due("a cell a TICK", y.cell(0, 0), Check.NONE);
        BagHall one = fullBelt(1);
        one.tick(9);
        Check.due("in a belt of one cell it stays", one.cell(0, 0), 1);
    }

    private static void aRowGoesAsOne() {
        BagHall x = fullBelt(12);
        x.take(1);
        x.tick(1);
        for (int cell = 1; cell < 12; cell++) {
            Check.due("each of the row went on a cell, to " + cell, x.cell(0, cell), 13 - cell);
        }
        Check.due("cell 0 is free behind them", x.cell(0, 0), Check.NONE);
        BagHall y = fullBelt(4);
        // The sorter takes in (3), behind (2): the row goes in the next TICK.
        y.take(0);
        y.tick(1);
        Check.due("the first was taken", y.holds(1), 1);
        Check.due("the row stands", y.cell(0, 2), 2);
        Check.due("its last, too", y.cell(0, 0), 4);
        y.tick(1);
        Check.due("then it goes", y.cell(0, 3), 2);
        Check.due("its last, too", y.cell(0, 1), 4);
    }

    private static void givenBagsDoNotMove() {
        for (int cells = 2; cells <= 12; cells += 5) {
            BagHall x = Halls.of(Check.DESK, 0, Check.CHUTE, 0);
            x.belt(0, 1, cells);
            x.flight(1, 0, 99);
            x.bag(0, 0, false);
            x.tick(1);
            Check.due("given to a belt of " + cells + ", it is in cell 0", x.cell(0, 0), 0);
            x.tick(1);
            Check.due("in the next TICK it moves", x.where(0) == 1 ? x.detail(0) : 1, 1);
        }
        BagHall y = Halls.line(2, 0, 99);
        y.bag(0, 0, false);
        int[] seen = new int[5];
        for (int i = 0; i < 30; i++) {
            y.tick(1);
            for (int belt = 0; belt < 5; belt++) {
                seen[belt] += y.cell(belt, 0) == 0 ? 1 : 0;
            }
        }
        for (int belt = 0; belt < 5; belt++) {
            Check.due("given by point " + belt + ", it is in cell 0 behind one TICK", seen[belt], 1);
        }
    }
}
