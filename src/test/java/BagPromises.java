/** The sentences of promises 8 to 15: bag, take, give, where, place, detail, steps, step. */
final class BagPromises {
    private BagPromises() {
    }

    static void addTo(Sentences s) {
        s.promise(8, "A new bag waits at a DESK: its number.", BagPromises::bagWaits);
        s.promise(8, "BEYOND: no such point, or flight.", BagPromises::bagBeyond);
        s.promise(8, "KIND: it is no DESK.", BagPromises::bagAtNoDesk);
        s.promise(8, "FULL: there are 60.", BagPromises::bagFull);

        s.promise(9, "A bag is taken by hand from where it is (a desk's row, a cell, a point, a store): 1.",
            BagPromises::takeFromWhereItIs);
        s.promise(9, "BEYOND: no such bag.", BagPromises::takeBeyond);
        s.promise(9, "TAKEN: it is IN HAND, LOADED, LATE, or ASTRAY.", BagPromises::takeOfTaken);

        s.promise(10, "A bag that is IN HAND waits at a DESK, behind others there,", BagPromises::giveBehindOthers);
        s.promise(10, "DOUBTFUL or not from then on:", BagPromises::giveDoubtful);
        s.promise(10, "how many wait there.", BagPromises::giveTellsHowMany);
        s.promise(10, "BEYOND: no such bag, or point.", BagPromises::giveBeyond);
        s.promise(10, "KIND: it is no DESK.", BagPromises::giveToNoDesk);
        s.promise(10, "NONE: it is not IN HAND.", BagPromises::giveOfNone);

        s.promise(11, "Where a bag is: 0 it waits at a desk, 1 on a belt, 2 at a point (MERGE, SCREEN, SORTER),"
            + " 3 in a store, 4 IN HAND, 5 LOADED, 6 LATE, 7 ASTRAY.", BagPromises::whereItIs);
        s.promise(11, "BEYOND.", BagPromises::whereBeyond);

        s.promise(12, "The desk, belt, point, store or chute where it is", BagPromises::placeWhereItIs);
        s.promise(12, "(IN HAND: -100, no finding).", BagPromises::placeInHand);
        s.promise(12, "BEYOND.", BagPromises::placeBeyond);

        s.promise(13, "On a belt its cell;", BagPromises::detailOnABelt);
        s.promise(13, "at a desk how many wait ahead of it;", BagPromises::detailAtADesk);
        s.promise(13, "at a point or in a store at which tick it came; LOADED, LATE, ASTRAY likewise.",
            BagPromises::detailOfComing);
        s.promise(13, "BEYOND.", BagPromises::detailBeyond);
        s.promise(13, "NONE: it is IN HAND.", BagPromises::detailInHand);

        s.promise(14, "How many STEPS its WAY has (only the first 30 are kept, all are counted).",
            BagPromises::allStepsAreCounted);
        s.promise(14, "BEYOND.", BagPromises::stepsBeyond);

        s.promise(15, "STEP i of its WAY: the point (tick: THE TICK then).", BagPromises::stepOfItsWay);
        s.promise(15, "BEYOND: no such bag, or no such step is kept.", BagPromises::stepBeyond);
    }

    private static void bagWaits() {
        BagHall x = Halls.line(1, 0, 99);
        int other = x.point(Check.DESK, 0);
        for (int i = 0; i < 60; i++) {
            Check.due("the next number", x.bag(i % 2 == 0 ? 0 : other, 0, i % 3 == 0), i);
        }
        for (int i = 0; i < 60; i += 59) {
            Check.due("it waits", x.where(i), 0);
            Check.due("at its DESK", x.place(i), i % 2 == 0 ? 0 : other);
            Check.due("behind those that came ahead of it", x.detail(i), i / 2);
            Check.due("without a step", x.steps(i), 0);
        }
        Check.due("so many bags", x.count(8), 60);
        Check.due("all wait", x.count(0), 60);
        Check.due("so many of its flight", x.flown(0, 6), 60);
        Check.due("at the other DESK", x.list(other, 29), 59);
    }

    private static void bagBeyond() {
        BagHall x = Halls.line(1, 0, 99);
        x.flight(5, 0, 0);
        for (int no : Halls.outside(0, 5)) {
            Check.due("point " + no, x.bag(no, 0, false), Check.BEYOND);
        }
        for (int no : Halls.outside(0, 1)) {
            Check.due("flight " + no, x.bag(0, no, true), Check.BEYOND);
        }
        Check.due("none was made", x.count(8), 0);
        Check.due("flight 1 is one", x.bag(0, 1, true), 0);
        Check.due("without flights", Halls.oneOfEach().bag(0, 0, false), Check.BEYOND);
        Check.due("without points", new BagHall().bag(0, 0, false), Check.BEYOND);
    }

    private static void bagAtNoDesk() {
        BagHall x = Halls.line(1, 0, 99);
        for (int p = 1; p <= 5; p++) {
            Check.due("point " + p, x.bag(p, 0, false), Check.KIND);
        }
        Check.due("none was made", x.count(8), 0);
        Check.due("none lies in the store", x.list(4, -1), 0);
    }

    private static void bagFull() {
        BagHall x = Halls.line(1, 0, 99);
        for (int i = 0; i < 59; i++) {
            x.bag(0, 0, false);
        }
        Check.due("the 60th", x.bag(0, 0, false), 59);
        Check.due("the 61st", x.bag(0, 0, false), Check.FULL);
        Check.due("the 61st, DOUBTFUL", x.bag(0, 0, true), Check.FULL);
        Check.due("there are 60", x.count(8), 60);
        Check.due("so many wait", x.list(0, -1), 60);
        Check.due("no bag 60", x.where(60), Check.BEYOND);
        x.tick(100);
        x.take(59);
        Check.due("bags that are gone or IN HAND are counted, too", x.bag(0, 0, false), Check.FULL);
    }

    /** The bag of line(1, 20, 30) is, behind so many ticks, at 0, on belt 0, at 1, on belt 1, .. on belt 4. */
    private static final int[] BEHIND = {0, 1, 2, 3, 4, 5, 6, 7, 8, 21};

    private static BagHall lineBehind(int ticks) {
        BagHall x = Halls.line(1, 20, 30);
        x.bag(0, 0, false);
        Halls.goTo(x, ticks);
        return x;
    }

    /** Where it is then: 0 at the desk, 1 on belts, 2 at points, 3 in the store. */
    private static int whereThen(int i) {
        return i % 2 == 1 ? 1 : i == 0 ? 0 : i == 8 ? 3 : 2;
    }

    private static void takeFromWhereItIs() {
        for (int i = 0; i < BEHIND.length; i++) {
            BagHall x = lineBehind(BEHIND[i]);
            Check.due("ahead of it, " + i, x.where(0), whereThen(i));
            Check.due("taken, " + i, x.take(0), 1);
            Check.due("it is IN HAND", x.where(0), 4);
            Check.due("one is IN HAND", x.count(4), 1);
            Check.due("it left the desk's row", x.list(0, -1), 0);
            Check.due("it left the store", x.list(4, -1), 0);
            for (int p = 1; p <= 3; p++) {
                Check.due("it left point " + p, x.holds(p), Check.NONE);
            }
            for (int belt = 0; belt < 5; belt++) {
                Check.due("it left belt " + belt, x.cell(belt, 0), Check.NONE);
            }
            x.tick(40);
            Check.due("no TICK moves it", x.where(0), 4);
        }
        BagHall y = Halls.line(12, 0, 99);
        Halls.bags(y, 0, 0, 3);
        y.tick(6);
        Check.due("from a cell between others", y.take(1), 1);
        Check.due("the one ahead stays", y.cell(0, 5), 0);
        Check.due("its cell is free", y.cell(0, 3), Check.NONE);
        Check.due("the one behind stays", y.cell(0, 1), 2);
        BagHall z = Halls.line(1, 0, 99);
        Halls.bags(z, 0, 0, 60);
        Check.due("the first of a full row", z.take(0), 1);
        Check.due("the last of a full row", z.take(59), 1);
        Check.due("one in between", z.take(30), 1);
        Check.due("so many are left", z.list(0, -1), 57);
        Check.due("the first of them", z.list(0, 0), 1);
        Check.due("those behind the gap close up", z.list(0, 29), 31);
        Check.due("the last of them", z.list(0, 56), 58);
        BagHall fallen = lineBehind(1);
        fallen.fall(0, true);
        Check.due("from a FALLEN belt", fallen.take(0), 1);
    }

    private static void takeBeyond() {
        BagHall x = Halls.line(1, 0, 99);
        Check.due("without bags", x.take(0), Check.BEYOND);
        x.bag(0, 0, false);
        for (int bag : Halls.outside(0, 0)) {
            Check.due("bag " + bag, x.take(bag), Check.BEYOND);
        }
        Check.due("none is IN HAND", x.count(4), 0);
    }

    /** Bags 0 to 3 are LOADED, LATE, ASTRAY and IN HAND; bag 4 waits at desk 0. */
    private static BagHall endsAndHand() {
        BagHall x = Halls.of(Check.DESK, 0, Check.CHUTE, 0, Check.CHUTE, 0);
        x.belt(0, 1, 1);
        x.flight(1, 0, 99);
        x.flight(1, 0, 0);
        x.flight(2, 0, 99);
        x.bag(0, 0, false);
        x.bag(0, 1, false);
        x.bag(0, 2, false);
        x.bag(0, 0, false);
        x.tick(6);
        x.take(3);
        x.bag(0, 0, false);
        return x;
    }

    private static void takeOfTaken() {
        BagHall x = endsAndHand();
        int[] where = {5, 6, 7, 4};
        for (int bag = 0; bag < 4; bag++) {
            Check.due("it is so, " + bag, x.where(bag), where[bag]);
            Check.due("where() " + where[bag], x.take(bag), Check.TAKEN);
            Check.due("it stays so", x.where(bag), where[bag]);
        }
        Check.due("another one may be taken", x.take(4), 1);
        Check.due("once", x.take(4), Check.TAKEN);
        x.give(4, 0, false);
        Check.due("and again, when it was given", x.take(4), 1);
    }

    private static void giveBehindOthers() {
        BagHall x = Halls.line(1, 0, 99);
        int other = x.point(Check.DESK, 0);
        Halls.bags(x, 0, 0, 3);
        x.take(0);
        x.give(0, 0, false);
        Check.due("it waits", x.where(0), 0);
        Check.due("behind 1 and 2", x.detail(0), 2);
        Check.due("the first is 1", x.list(0, 0), 1);
        Check.due("the last is 0", x.list(0, 2), 0);
        x.take(1);
        x.give(1, other, false);
        Check.due("at another DESK", x.place(1), other);
        Check.due("alone there", x.detail(1), 0);
        Check.due("not at its own any more", x.list(0, -1), 2);
        x.take(2);
        x.give(2, other, false);
        Check.due("behind 1 there", x.list(other, 1), 2);
        BagHall y = lineBehind(8);
        y.take(0);
        y.bag(0, 0, false);
        y.give(0, 0, false);
        Check.due("from a store to the desk, behind the other", y.detail(0), 1);
        y.tick(1);
        Check.due("the other goes first", y.cell(0, 0), 1);
        BagHall z = Halls.line(1, 0, 99);
        Halls.bags(z, 0, 0, 60);
        z.take(0);
        z.give(0, 0, false);
        Check.due("the last of sixty", z.list(0, 59), 0);
        Check.due("59 wait ahead of it", z.detail(0), 59);
    }

    private static void giveDoubtful() {
        for (int i = 0; i < 4; i++) {
            boolean before = i % 2 == 1;
            boolean then = i / 2 == 1;
            BagHall x = Halls.of(Check.DESK, 0, Check.SCREEN, 1, Check.CHUTE, 0, Check.CHUTE, 0);
            Halls.belts(x, 0, 1, 1, 1, 2, 1, 1, 3, 1);
            x.flight(2, 0, 99);
            x.bag(0, 0, before);
            x.take(0);
            x.give(0, 0, then);
            x.tick(9);
            Check.due("it was " + before + ", it is " + then, x.place(0), then ? 3 : 2);
        }
    }

    private static void giveTellsHowMany() {
        BagHall x = Halls.line(1, 0, 99);
        int other = x.point(Check.DESK, 0);
        Halls.bags(x, 0, 0, 60);
        x.take(7);
        Check.due("all sixty", x.give(7, 0, false), 60);
        for (int i = 0; i < 5; i++) {
            x.take(i);
            Check.due("it is one of them", x.give(i, other, false), i + 1);
        }
        Check.due("so many are left", x.list(0, -1), 55);
    }

    private static void giveBeyond() {
        BagHall x = Halls.line(1, 0, 99);
        Check.due("without bags", x.give(0, 0, false), Check.BEYOND);
        x.bag(0, 0, false);
        x.take(0);
        for (int no : Halls.outside(0, 0)) {
            Check.due("bag " + no, x.give(no, 0, false), Check.BEYOND);
        }
        for (int no : Halls.outside(0, 5)) {
            Check.due("point " + no, x.give(0, no, true), Check.BEYOND);
        }
        Check.due("it is still IN HAND", x.where(0), 4);
        Check.due("none waits", x.list(0, -1), 0);
    }

    private static void giveToNoDesk() {
        BagHall x = Halls.line(1, 0, 99);
        x.bag(0, 0, false);
        x.take(0);
        for (int p = 1; p <= 5; p++) {
            Check.due("point " + p, x.give(0, p, false), Check.KIND);
        }
        Check.due("it is still IN HAND", x.where(0), 4);
        Check.due("none lies in the store", x.list(4, -1), 0);
    }

    private static void giveOfNone() {
        for (int i = 0; i < BEHIND.length; i++) {
            BagHall x = lineBehind(BEHIND[i]);
            Check.due("where() " + whereThen(i), x.give(0, 0, true), Check.NONE);
            Check.due("it stays there", x.where(0), whereThen(i));
        }
        BagHall y = endsAndHand();
        for (int bag = 0; bag < 3; bag++) {
            Check.due("where() " + y.where(bag), y.give(bag, 0, false), Check.NONE);
        }
        Check.due("IN HAND, it is given", y.give(3, 0, false), 2);
        Check.due("once", y.give(3, 0, false), Check.NONE);
    }

    private static void whereItIs() {
        for (int i = 0; i < BEHIND.length; i++) {
            Check.due("behind " + BEHIND[i] + " ticks", lineBehind(BEHIND[i]).where(0), whereThen(i));
        }
        BagHall x = endsAndHand();
        int[] where = {5, 6, 7, 4, 0};
        for (int bag = 0; bag < 5; bag++) {
            Check.due("bag " + bag, x.where(bag), where[bag]);
        }
    }

    private static void whereBeyond() {
        BagHall x = Halls.line(1, 0, 99);
        Check.due("without bags", x.where(0), Check.BEYOND);
        Halls.bags(x, 0, 0, 3);
        for (int bag : Halls.outside(0, 2)) {
            Check.due("bag " + bag, x.where(bag), Check.BEYOND);
        }
    }

    private static void placeWhereItIs() {
        for (int i = 0; i < BEHIND.length; i++) {
            Check.due("behind " + BEHIND[i] + " ticks", lineBehind(BEHIND[i]).place(0), i / 2);
        }
        BagHall x = endsAndHand();
        int[] place = {1, 1, 1, -100, 0};
        for (int bag = 0; bag < 5; bag++) {
            Check.due("bag " + bag, x.place(bag), place[bag]);
        }
        BagHall y = Halls.fullAndBusy();
        y.take(59);
        y.give(59, 11, false);
        Check.due("the highest point", y.place(59), 11);
        BagHall z = Halls.of(Check.CHUTE, 0, Check.SORTER, 0, Check.DESK, 0);
        Halls.belts(z, 1, 0, 1, 2, 1, 1);
        z.flight(0, 0, 99);
        z.bag(2, 0, false);
        int[] places = {2, 1, 1, 0, 0};
        int[] where = {0, 1, 2, 1, 5};
        for (int ticks = 0; ticks < 5; ticks++) {
            Halls.goTo(z, ticks);
            Check.due("where behind " + ticks, z.where(0), where[ticks]);
            Check.due("desk 2, belt 1, point 1, belt 0, chute 0", z.place(0), places[ticks]);
        }
        BagHall other = Halls.of(Check.CHUTE, 0, Check.DESK, 0, Check.DESK, 0);
        Halls.belts(other, 1, 0, 9, 2, 0, 9, 2, 0, 9);
        other.flight(0, 0, 99);
        other.bag(2, 0, false);
        other.fall(1, true);
        other.tick(1);
        Check.due("on belt 2 of desk 2", other.place(0), 2);
        other.take(0);
        other.give(0, 2, false);
        other.fall(1, false);
        other.tick(1);
        Check.due("on belt 1 of desk 2", other.place(0), 1);
    }

    private static void placeInHand() {
        BagHall x = Halls.line(1, 0, 99);
        x.bag(0, 0, false);
        x.take(0);
        Check.due("IN HAND", x.place(0), -100);
        Check.due("no finding", x.count(14), 0);
        x.give(0, 0, false);
        Check.due("given, it has a place", x.place(0), 0);
    }

    private static void placeBeyond() {
        BagHall x = Halls.line(1, 0, 99);
        Check.due("without bags", x.place(0), Check.BEYOND);
        Halls.bags(x, 0, 0, 3);
        x.take(0);
        for (int bag : Halls.outside(0, 2)) {
            Check.due("bag " + bag, x.place(bag), Check.BEYOND);
        }
        Check.due("these are findings", x.count(14), 1 + Halls.outside(0, 2).length);
    }

    private static void detailOnABelt() {
        BagHall x = Halls.of(Check.DESK, 0, Check.SORTER, 0, Check.CHUTE, 0);
        x.belt(0, 1, 12);
        x.flight(2, 0, 99);
        Halls.bags(x, 0, 0, 13);
        for (int cell = 0; cell < 11; cell++) {
            x.tick(1);
            Check.due("its cell behind " + (cell + 1), x.detail(0), cell);
        }
        x.tick(60);
        // The sorter holds bag 0 for ever.
        for (int bag = 1; bag <= 12; bag++) {
            Check.due("in a full row, bag " + bag, x.detail(bag), 12 - bag);
        }
    }

    private static void detailAtADesk() {
        BagHall x = Halls.line(1, 0, 99);
        Halls.bags(x, 0, 0, 60);
        for (int bag = 0; bag < 60; bag++) {
            Check.due("bag " + bag, x.detail(bag), bag);
        }
        x.take(0);
        x.take(30);
        Check.due("one less ahead", x.detail(29), 28);
        Check.due("two less ahead", x.detail(31), 29);
        Check.due("the first has none ahead", x.detail(1), 0);
        x.tick(1);
        Check.due("one goes, one less", x.detail(31), 28);
    }

    private static void detailOfComing() {
        int[] came = {1, 3, 5, 7};
        for (int i = 0; i < came.length; i++) {
            BagHall x = lineBehind(2 + 2 * i);
            Check.due("at point " + (i + 1), x.detail(0), came[i]);
            if (i == 3) {
                x.tick(9);
                Check.due("later, too", x.detail(0), came[i]);
            }
        }
        BagHall x = endsAndHand();
        Check.due("LOADED", x.detail(0), 1);
        Check.due("LATE", x.detail(1), 3);
        Check.due("ASTRAY", x.detail(2), 5);
        x.tick(50);
        Check.due("LOADED, later, too", x.detail(0), 1);
        BagHall held = Halls.deskTo(Check.MERGE, 0);
        held.bag(0, 0, false);
        held.tick(70);
        Check.due("held for long", held.detail(0), 1);
    }

    private static void detailBeyond() {
        BagHall x = Halls.line(1, 0, 99);
        Check.due("without bags", x.detail(0), Check.BEYOND);
        Halls.bags(x, 0, 0, 3);
        for (int bag : Halls.outside(0, 2)) {
            Check.due("bag " + bag, x.detail(bag), Check.BEYOND);
        }
        Check.due("these are findings", x.count(14), 1 + Halls.outside(0, 2).length);
    }

    private static void detailInHand() {
        for (int i = 0; i < BEHIND.length; i++) {
            BagHall x = lineBehind(BEHIND[i]);
            x.take(0);
            Check.due("taken behind " + BEHIND[i], x.detail(0), Check.NONE);
            Check.due("it is a finding", x.count(14), 1);
            x.give(0, 0, false);
            Check.due("given, it has one", x.detail(0), 0);
        }
    }

    /** A bag that goes round between MERGES 1 and 2: given at tick 0, it is taken at each odd tick. */
    private static BagHall round() {
        BagHall x = Halls.of(Check.DESK, 0, Check.MERGE, 0, Check.MERGE, 0, Check.CHUTE, 0);
        Halls.belts(x, 0, 1, 1, 1, 2, 1, 2, 1, 1);
        x.flight(3, 0, 99);
        x.bag(0, 0, false);
        return x;
    }

    private static void allStepsAreCounted() {
        BagHall x = round();
        Check.due("none yet", x.steps(0), 0);
        for (int steps = 1; steps <= 29; steps++) {
            x.tick(steps == 1 ? 1 : 2);
            Check.due("so many", x.steps(0), steps);
        }
        x.tick(1);
        Check.due("the 30th is counted", x.steps(0), 30);
        Check.due("the 30th is kept", x.step(0, 29, true), 57);
        x.tick(1);
        Check.due("a TICK without a step", x.steps(0), 30);
        x.tick(1);
        Check.due("the 31st is counted", x.steps(0), 31);
        Check.due("the 31st is not kept", x.step(0, 30, true), Check.BEYOND);
        Check.due("the 30th is as it was", x.step(0, 29, true), 57);
        Check.due("the first is as it was", x.step(0, 0, true), 0);
        x.tick(100);
        x.tick(100);
        Check.due("all are counted", x.steps(0), 131);
        x.take(0);
        Check.due("IN HAND it has its steps", x.steps(0), 131);
        x.give(0, 0, false);
        x.tick(1);
        Check.due("and goes on with them", x.steps(0), 132);
    }

    private static void stepsBeyond() {
        BagHall x = Halls.line(1, 0, 99);
        Check.due("without bags", x.steps(0), Check.BEYOND);
        Halls.bags(x, 0, 0, 3);
        for (int bag : Halls.outside(0, 2)) {
            Check.due("bag " + bag, x.steps(bag), Check.BEYOND);
        }
    }

    private static void stepOfItsWay() {
        BagHall x = round();
        x.tick(60);
        Check.due("the desk", x.step(0, 0, false), 0);
        Check.due("the first TICK", x.step(0, 0, true), 0);
        for (int i = 1; i < 30; i++) {
            Check.due("point of " + i, x.step(0, i, false), i % 2 == 1 ? 1 : 2);
            Check.due("tick of " + i, x.step(0, i, true), 2 * i - 1);
        }
        // Point 11, the highest, at a late tick.
        BagHall y = new BagHall();
        for (int i = 0; i < 11; i++) {
            y.point(Check.DESK, 0);
        }
        y.point(Check.CHUTE, 0);
        y.belt(10, 11, 1);
        y.flight(11, 0, 0);
        for (int i = 0; i < 400; i++) {
            y.tick(100);
        }
        y.bag(10, 0, false);
        y.tick(2);
        Check.due("the highest desk", y.step(0, 0, false), 10);
        Check.due("a late tick", y.step(0, 0, true), 40000);
        Check.due("the highest point", y.step(0, 1, false), 11);
        Check.due("one tick later", y.step(0, 1, true), 40001);
    }

    private static void stepBeyond() {
        BagHall x = Halls.line(1, 0, 99);
        Check.due("without bags", x.step(0, 0, false), Check.BEYOND);
        x.bag(0, 0, false);
        Check.due("without steps", x.step(0, 0, true), Check.BEYOND);
        x.tick(3);
        for (int bag : Halls.outside(0, 0)) {
            Check.due("bag " + bag, x.step(bag, 0, true), Check.BEYOND);
        }
        for (int i : Halls.outside(0, 1)) {
            Check.due("step " + i, x.step(0, i, false), Check.BEYOND);
            Check.due("tick of step " + i, x.step(0, i, true), Check.BEYOND);
        }
        Check.due("the last that is kept", x.step(0, 1, false), 1);
        BagHall y = round();
        y.tick(100);
        for (int i : Halls.outside(0, 29)) {
            Check.due("of many, step " + i, y.step(0, i, false), Check.BEYOND);
        }
        Check.due("of many, the last that is kept", y.step(0, 29, false), 1);
    }
}
