/** Counts answers that are not as due, for the tests whose main methods use it. */
final class Check {
    static final int BEYOND = -1;
    static final int NONE = -2;
    static final int FULL = -3;
    static final int KIND = -4;
    static final int SAME = -5;
    static final int TAKEN = -6;

    static final int DESK = 0;
    static final int MERGE = 1;
    static final int SCREEN = 2;
    static final int SORTER = 3;
    static final int STORE = 4;
    static final int CHUTE = 5;

    private static int asked = 0;
    private static int wrong = 0;
    private static String about = "";

    private Check() {
    }

    /** What the answers from now on are about: it is told ahead of each that is not as due. */
    static void about(String words) {
        about = words;
    }

    static int wrong() {
        return wrong;
    }

    static void due(String what, int got, int want) {
        asked++;
        if (got != want) {
            wrong++;
            System.out.println(about + what + " answered " + got + ", due is " + want);
        }
    }

    static void holds(String what, boolean is) {
        asked++;
        if (!is) {
            wrong++;
            System.out.println(about + what + " does not hold");
        }
    }

    /**
     * The bag that a point holds next. Its outlet rests for two ticks first, so that desks fill
     * the cells of its inlets again and each inlet with bags behind it is ready.
     */
    static int nextHeld(BagHall x, int point, int outlet) {
        int before = x.holds(point);
        x.fall(outlet, true);
        x.tick(2);
        x.fall(outlet, false);
        for (int i = 0; i < 20 && (x.holds(point) == before || x.holds(point) < 0); i++) {
            x.tick(1);
        }
        return x.holds(point);
    }

    static void end() {
        System.out.println(asked + " answers asked, " + wrong + " not as due");
        if (wrong != 0) {
            System.exit(1);
        }
    }
}
