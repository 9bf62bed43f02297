/** Promises 24 and 25: keep and back. */
public final class KeepBackTest {
    public static void main(String[] args) {
        nothingKept();
        allComesBack();
        whatIsKeptStays();
        keepInPlaceOfWhatWas();
        findingsGoOn();
        newOnesBehindBackAreNew();
        fallenAndDoubtfulComeBack();
        turnsComeBack();
        Check.end();
    }

    private static void nothingKept() {
        BagHall x = new BagHall();
        Check.due("25: nothing is kept", x.back(), Check.NONE);
        x.tick(5);
        Check.due("25: still nothing", x.back(), Check.NONE);
        Check.due("25: nothing changed", x.count(13), 5);
        Check.due("24: THE TICK", x.keep(), 5);
        Check.due("25: THE TICK", x.back(), 5);
    }

    private static BagHall hall() {
        BagHall x = new BagHall();
        x.point(Check.DESK, 0);
        x.point(Check.MERGE, 0);
        x.point(Check.SORTER, 0);
        x.point(Check.STORE, 2);
        x.point(Check.CHUTE, 0);
        x.point(Check.CHUTE, 0);
        x.belt(0, 1, 1);
        x.belt(1, 2, 2);
        x.belt(2, 3, 1);
        x.belt(2, 4, 3);
        x.belt(3, 4, 1);
        x.belt(2, 5, 1);
        x.flight(4, 12, 20);
        x.flight(5, 0, 3);
        for (int i = 0; i < 8; i++) {
            x.bag(0, i % 3 == 2 ? 1 : 0, false);
        }
        return x;
    }

    private static void disturb(BagHall x) {
        x.tick(7);
        x.point(Check.DESK, 0);
        x.point(Check.CHUTE, 0);
        x.belt(6, 7, 4);
        x.belt(2, 7, 1);
        x.flight(7, 3, 4);
        x.bag(6, 2, true);
        x.fall(3, true);
        x.fall(4, true);
        x.take(6);
        x.take(7);
        x.give(7, 6, true);
        x.tick(9);
    }

    private static BagHall behind(int ticks) {
        BagHall x = hall();
        x.tick(ticks);
        return x;
    }

    private static BagHall kept(int ticks) {
        BagHall x = behind(ticks);
        x.keep();
        return x;
    }

    private static BagHall keptAndBack(int ticks) {
        BagHall x = kept(ticks);
        disturb(x);
        x.back();
        return x;
    }

    private static BagHall disturbed(BagHall x) {
        disturb(x);
        return x;
    }

    private static void allComesBack() {
        for (int i = 1; i <= 30; i++) {
            int ticks = i;
            Check.due("24: THE TICK", behind(ticks).keep(), ticks);
            String kept = Snapshot.of(() -> kept(ticks));
            String later = Snapshot.of(() -> disturbed(kept(ticks)));
            Check.holds("24: keep does not hinder", !later.equals(kept));
            Check.due("25: THE TICK", disturbed(kept(ticks)).back(), ticks);
            Check.holds("25: all is as it was behind " + ticks, Snapshot.of(() -> keptAndBack(ticks)).equals(kept));
            Check.holds("25: and goes on so behind " + ticks,
                Snapshot.of(() -> disturbed(keptAndBack(ticks))).equals(later));
        }
    }

    private static void whatIsKeptStays() {
        String kept = Snapshot.of(() -> kept(6));
        for (int i = 1; i <= 3; i++) {
            int times = i;
            Check.holds("25: as it was, " + times + " times", kept.equals(Snapshot.of(() -> {
                BagHall x = kept(6);
                for (int back = 0; back < times; back++) {
                    disturb(x);
                    Check.due("25: back once more", x.back(), 6);
                }
                return x;
            })));
        }
    }

    private static void keepInPlaceOfWhatWas() {
        Snapshot.Recipe twice = () -> {
            BagHall x = kept(1);
            x.tick(7);
            Check.due("24: the second", x.keep(), 8);
            disturb(x);
            Check.due("25: to the second", x.back(), 8);
            return x;
        };
        Check.holds("25: as it was then", Snapshot.of(twice).equals(Snapshot.of(() -> kept(8))));
    }

    private static void findingsGoOn() {
        BagHall x = hall();
        x.where(-1);
        x.where(-1);
        x.keep();
        x.where(-1);
        x.where(-1);
        x.where(-1);
        x.back();
        Check.due("23: findings go on with back", x.count(14), 5);
        x.where(-1);
        x.back();
        Check.due("23: and go on", x.count(14), 6);
    }

    private static void newOnesBehindBackAreNew() {
        BagHall x = new BagHall();
        x.point(Check.DESK, 0);
        x.point(Check.CHUTE, 0);
        x.flight(1, 0, 9);
        x.keep();
        x.point(Check.MERGE, 0);
        x.belt(0, 2, 3);
        x.belt(2, 1, 1);
        x.fall(1, true);
        x.turns(0, 7);
        x.bag(0, 0, true);
        x.tick(9);
        Check.due("25: the merge holds it", x.holds(2), 0);
        x.back();
        Check.due("25: no point 2", x.holds(2), Check.BEYOND);
        Check.due("25: no belt 0", x.cell(0, 0), Check.BEYOND);
        Check.due("25: no bag 0", x.where(0), Check.BEYOND);
        Check.due("25: none FALLEN", x.count(12), 0);
        Check.due("2: point 2 is new", x.point(Check.MERGE, 0), 2);
        Check.due("2: it holds none", x.holds(2), Check.NONE);
        Check.due("3: belt 0 is new", x.belt(0, 2, 12), 0);
        Check.due("3: with its TURNS", x.turns(0, 1), 1);
        Check.due("3: belt 1 is new", x.belt(2, 1, 12), 1);
        Check.due("3: sound", x.fall(1, true), 1);
        for (int cell = 0; cell < 12; cell++) {
            Check.due("3: empty", x.cell(0, cell), Check.NONE);
        }
        Check.due("8: bag 0 is new", x.bag(0, 0, false), 0);
        Check.due("8: without steps", x.steps(0), 0);
        Check.due("8: it waits", x.where(0), 0);
        Check.due("8: alone", x.list(0, -1), 1);
        Check.due("20: new ways", x.far(0, 1), Check.NONE);
    }

    private static void fallenAndDoubtfulComeBack() {
        BagHall x = new BagHall();
        x.point(Check.DESK, 0);
        x.point(Check.SCREEN, 1);
        x.point(Check.CHUTE, 0);
        x.belt(0, 1, 1);
        x.belt(1, 2, 1);
        x.belt(1, 2, 9);
        x.flight(2, 0, 99);
        x.bag(0, 0, true);
        x.fall(0, true);
        x.keep();
        x.fall(0, false);
        x.take(0);
        x.give(0, 0, false);
        x.tick(5);
        Check.due("10: not DOUBTFUL any more", x.where(0), 5);
        x.back();
        Check.due("25: FALLEN again", x.count(12), 1);
        Check.due("25: that belt", x.fall(0, true), 0);
        x.fall(0, false);
        x.tick(5);
        Check.due("25: DOUBTFUL again", x.place(0), 2);
        Check.due("25: on its belt", x.where(0), 1);
    }

    private static void turnsComeBack() {
        BagHall x = new BagHall();
        x.point(Check.DESK, 0);
        x.point(Check.DESK, 0);
        x.point(Check.MERGE, 0);
        x.point(Check.CHUTE, 0);
        x.belt(0, 2, 1);
        x.belt(1, 2, 1);
        x.belt(2, 3, 1);
        x.flight(3, 0, 99);
        for (int i = 0; i < 10; i++) {
            x.bag(0, 0, false);
        }
        for (int i = 0; i < 10; i++) {
            x.bag(1, 0, false);
        }
        x.turns(0, 3);
        x.turns(1, 4);
        Check.due("24: one of three turns", Check.nextHeld(x, 2, 2), 0);
        Check.due("24: two of three turns", Check.nextHeld(x, 2, 2), 1);
        x.keep();
        Check.due("24: three of three", Check.nextHeld(x, 2, 2), 2);
        Check.due("24: the other", Check.nextHeld(x, 2, 2), 10);
        x.turns(0, 0);
        x.back();
        Check.due("25: TURNS as they were", x.turns(0, 3), 3);
        Check.due("25: one was left", Check.nextHeld(x, 2, 2), 2);
        Check.due("25: then none", Check.nextHeld(x, 2, 2), 10);
        for (int bag = 11; bag < 14; bag++) {
            Check.due("25: the other has four", Check.nextHeld(x, 2, 2), bag);
        }
        Check.due("25: and the first again", Check.nextHeld(x, 2, 2), 3);
    }
}
