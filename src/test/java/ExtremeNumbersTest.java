import java.util.ArrayList;
import java.util.List;
import java.util.function.Consumer;

/**
 * LANGUAGE.md, rule 7, and all findings BEYOND: every call with every mixture of numbers at the
 * document's bounds, next to them, and at the ends of int, in halls from empty to full.
 */
public final class ExtremeNumbersTest {
    private static final int[] NUMBERS = {
        Integer.MIN_VALUE, Integer.MIN_VALUE + 1, -5000, -101, -100, -2, -1, 0, 1, 2, 3, 5, 6, 7, 8, 9, 10, 11, 12, 13,
        14, 15, 16, 20, 21, 29, 30, 59, 60, 61, 100, 101, 5000, 5001, Integer.MAX_VALUE - 1, Integer.MAX_VALUE,
    };
    private static final int[] FEW_NUMBERS = {
        Integer.MIN_VALUE, -1, 0, 1, 2, 5, 6, 11, 12, 13, 4999, 5000, 5001, Integer.MAX_VALUE,
    };

    private static final String[] OF_ONE = {"take", "where", "place", "detail", "steps", "tick", "holds", "count", "fall"};
    private static final String[] OF_TWO = {
        "point", "as", "turns", "bag", "give", "step", "cell", "list", "far", "route", "flown",
    };
    private static final String[] OF_THREE = {"belt", "flight"};

    private final String state;
    private final Consumer<Both> recipe;
    private Both both = null;

    private ExtremeNumbersTest(String state, Consumer<Both> recipe) {
        this.state = state;
        this.recipe = recipe;
    }

    public static void main(String[] args) {
        List<ExtremeNumbersTest> states = new ArrayList<>();
        states.add(new ExtremeNumbersTest("empty", x -> { }));
        states.add(new ExtremeNumbersTest("points alone", ExtremeNumbersTest::points));
        states.add(new ExtremeNumbersTest("busy", ExtremeNumbersTest::busy));
        states.add(new ExtremeNumbersTest("full", ExtremeNumbersTest::full));
        states.add(new ExtremeNumbersTest("brought back from full to points alone", x -> {
            points(x);
            call(x, "keep", 0, 0, 0);
            busy(x);
            full(x);
            call(x, "back", 0, 0, 0);
        }));
        for (ExtremeNumbersTest test : states) {
            test.run();
        }
        Check.end();
    }

    private void run() {
        both = null;
        for (String name : OF_ONE) {
            for (int a : NUMBERS) {
                ask(name, a, 0, 0);
            }
        }
        for (String name : OF_TWO) {
            for (int a : NUMBERS) {
                for (int b : NUMBERS) {
                    ask(name, a, b, 0);
                }
            }
        }
        for (String name : OF_THREE) {
            for (int a : FEW_NUMBERS) {
                for (int b : FEW_NUMBERS) {
                    for (int c : FEW_NUMBERS) {
                        ask(name, a, b, c);
                    }
                }
            }
        }
        check();
    }

    /** Asks with true and false, of a new hall when the last one has had its calls. */
    private void ask(String name, int a, int b, int c) {
        if (both == null || both.callsLeft() < 20) {
            check();
            both = new Both();
            recipe.accept(both);
        }
        both.call(name, a, b, c, true);
        both.call(name, a, b, c, false);
    }

    private void check() {
        if (both != null) {
            both.call("count", 14, 0, 0, false);
            Check.holds(state + (both.same() ? "" : "\n" + both.told()), both.same());
        }
    }

    private static void call(Both x, String name, int a, int b, int c) {
        x.call(name, a, b, c, false);
    }

    private static void points(Both x) {
        for (int kind = 0; kind <= 5; kind++) {
            call(x, "point", kind, 1, 0);
        }
    }

    private static void busy(Both x) {
        points(x);
        for (int i = 0; i < 5; i++) {
            call(x, "belt", i, i + 1, 1 + i);
        }
        call(x, "flight", 5, 3, 9);
        call(x, "flight", 5, 40, 90);
        for (int i = 0; i < 8; i++) {
            call(x, "bag", 0, i % 2, 0);
        }
        call(x, "keep", 0, 0, 0);
        call(x, "tick", 30, 0, 0);
        call(x, "take", 7, 0, 0);
    }

    private static void full(Both x) {
        busy(x);
        for (int i = 0; i < 6; i++) {
            call(x, "point", i % 2 == 0 ? 0 : 5, 1, 0);
        }
        for (int i = 0; i < 11; i++) {
            call(x, "belt", i % 5, i % 2 == 0 ? 5 : 7, 12);
        }
        for (int i = 0; i < 6; i++) {
            call(x, "flight", 7, i, 5000);
        }
        for (int i = 0; i < 52; i++) {
            call(x, "bag", 0, i % 8, 0);
        }
        call(x, "tick", 40, 0, 0);
    }
}
