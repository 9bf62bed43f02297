import java.util.ArrayList;
import java.util.Collections;
import java.util.List;
import java.util.Random;

/** Runs of 512 calls by a fixed seed: each answer of BagHall must be that of PlainModel. */
public final class RandomRunsTest {
    private static final int RUNS = 3000;
    /** So many calls of a run are left for questions at its end. */
    private static final int LAST_QUESTIONS = 150;

    private static final String[] ASKS = {
        "as", "where", "place", "detail", "steps", "step", "cell", "holds", "list", "far", "route", "flown", "count",
    };

    private final Random random;
    private final Both both = new Both();
    private final PlainModel model = both.model();
    private final int oddness;

    private RandomRunsTest(int seed) {
        random = new Random(seed);
        oddness = seed % 3 == 0 ? 5 : 40;
    }

    public static void main(String[] args) {
        for (int seed = 1; seed <= RUNS; seed++) {
            RandomRunsTest run = new RandomRunsTest(seed);
            boolean same = run.go();
            Check.holds("run " + seed + (same ? "" : "\n" + run.both.told()), same);
            if (!same) {
                break;
            }
        }
        Check.end();
    }

    private boolean go() {
        build();
        while (both.callsLeft() > LAST_QUESTIONS) {
            act();
        }
        askAll();
        return both.same();
    }

    private void call(String name, int a, int b, boolean on) {
        both.call(name, a, b, 0, on);
    }

    /** Mostly 0 to n - 1, now and then a number that is none or an extreme one. */
    private int some(int n) {
        if (random.nextInt(oddness) == 0) {
            int[] odd = {-1, n, -2, n + 1, Integer.MIN_VALUE, Integer.MAX_VALUE, random.nextInt()};
            return odd[random.nextInt(odd.length)];
        }
        return n > 0 ? random.nextInt(n) : 0;
    }

    private void build() {
        int points = 4 + random.nextInt(9);
        for (int i = 0; i < points; i++) {
            makePoint(i < 6 && random.nextInt(3) > 0 ? new int[] {0, 5, 1, 3, 2, 4}[i] : random.nextInt(6));
        }
        int belts = 6 + random.nextInt(22);
        for (int i = 0; i < belts; i++) {
            makeBelt();
        }
        int flights = 1 + random.nextInt(5);
        for (int i = 0; i < flights; i++) {
            makeFlight();
        }
        int bags = 3 + random.nextInt(20);
        for (int i = 0; i < bags; i++) {
            makeBag();
        }
    }

    private void makePoint(int kind) {
        int made = random.nextInt(oddness) == 0 ? some(6) : kind;
        call("point", made, 1 + some(kind == 2 ? 9 : kind == 4 ? 4 : 20), false);
    }

    /** Mostly a point of the kind, if there is one. */
    private int pointOfKind(int kind) {
        int point = some(points());
        for (int tries = 0; tries < 20 && point >= 0 && point < points() && model.kindOf(point) != kind; tries++) {
            point = some(points());
        }
        return point;
    }

    private int points() {
        return model.call("count", 9, 0, 0, false);
    }

    private int belts() {
        return model.call("count", 10, 0, 0, false);
    }

    private int flights() {
        return model.call("count", 11, 0, 0, false);
    }

    private int bags() {
        return model.call("count", 8, 0, 0, false);
    }

    private void makeBelt() {
        int cells = 1 + (random.nextBoolean() ? some(2) : some(12));
        both.call("belt", some(points()), some(points()), cells, false);
    }

    private void makeFlight() {
        int opening = random.nextInt(4) == 0 ? some(5001) : some(40);
        int close = random.nextInt(4) == 0 ? some(5001) : opening + some(60);
        both.call("flight", pointOfKind(5), opening, close, false);
    }

    private void makeBag() {
        call("bag", pointOfKind(0), some(flights()), random.nextInt(3) == 0);
    }

    private void act() {
        int what = random.nextInt(90);
        if (what < 25) {
            call("tick", random.nextInt(10) == 0 ? some(101) : 1 + some(4), 0, false);
        } else if (what < 33) {
            makeBag();
        } else if (what < 39) {
            call("fall", some(belts()), 0, random.nextInt(3) == 0);
        } else if (what < 44) {
            call("take", some(bags()), 0, false);
        } else if (what < 49) {
            call("give", some(bags()), pointOfKind(0), random.nextBoolean());
        } else if (what < 54) {
            call("turns", some(belts()), some(random.nextBoolean() ? 3 : 10), false);
        } else if (what < 57) {
            grow();
        } else if (what < 60) {
            call(random.nextBoolean() ? "keep" : "back", 0, 0, false);
        } else {
            ask(ASKS[random.nextInt(ASKS.length)]);
        }
    }

    private void grow() {
        int what = random.nextInt(6);
        if (what == 0) {
            makePoint(random.nextInt(6));
        } else if (what < 4) {
            makeBelt();
        } else {
            makeFlight();
        }
    }

    private void ask(String name) {
        int n = "as holds list far route".contains(name) ? points() : name.equals("cell") ? belts()
            : name.equals("flown") ? flights() : name.equals("count") ? 15 : bags();
        int m = name.equals("as") ? 6 : name.equals("far") ? points() : name.equals("route") ? flights()
            : name.equals("flown") ? 7 : name.equals("step") ? 31 : 5;
        call(name, some(n), some(m), random.nextBoolean());
    }

    /** All questions in a random order, as many as calls are left. */
    private void askAll() {
        List<Runnable> questions = new ArrayList<>();
        for (int what = 0; what <= 14; what++) {
            add(questions, "count", what, 0);
        }
        for (int p = 0; p < points(); p++) {
            add(questions, "holds", p, 0);
            for (int i = -1; i < 8; i++) {
                add(questions, "list", p, i);
            }
            for (int q = 0; q < points(); q++) {
                add(questions, "far", p, q);
                add(questions, "route", p, q);
            }
        }
        for (int b = 0; b < belts(); b++) {
            for (int cell = 0; cell < 12; cell++) {
                add(questions, "cell", b, cell);
            }
        }
        for (int f = 0; f < flights(); f++) {
            for (int what = 0; what < 7; what++) {
                add(questions, "flown", f, what);
            }
        }
        for (int bag = 0; bag < bags(); bag++) {
            addOfBag(questions, bag);
        }
        Collections.shuffle(questions, random);
        questions.forEach(Runnable::run);
    }

    private void add(List<Runnable> questions, String name, int a, int b) {
        boolean on = random.nextBoolean();
        questions.add(() -> call(name, a, b, on));
    }

    private void addOfBag(List<Runnable> questions, int bag) {
        add(questions, "where", bag, 0);
        add(questions, "place", bag, 0);
        add(questions, "detail", bag, 0);
        add(questions, "steps", bag, 0);
        for (int i = 0; i < 31; i += 1 + random.nextInt(6)) {
            add(questions, "step", bag, i);
        }
    }
}
