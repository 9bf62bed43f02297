import java.util.Random;

/** Long runs of calls by a fixed seed: each answer of BagHall must be that of PlainModel. */
public final class RandomRunsTest {
    private static final int RUNS = 600;
    private static final int CALLS = 512;

    private static final String[] ASKS = {
        "as", "where", "place", "detail", "steps", "step", "cell", "holds", "list", "far", "route", "flown", "count",
    };

    private final Random random;
    private final BagHall hall = new BagHall();
    private final PlainModel model = new PlainModel();
    private final StringBuilder told = new StringBuilder();
    private boolean same = true;
    private final int oddness;

    private RandomRunsTest(int seed) {
        random = new Random(seed);
        oddness = seed % 3 == 0 ? 5 : 40;
    }

    public static void main(String[] args) {
        for (int seed = 1; seed <= RUNS; seed++) {
            RandomRunsTest run = new RandomRunsTest(seed);
            boolean same = run.go();
            Check.holds("run " + seed + "\n" + run.told, same);
            if (!same) {
                break;
            }
        }
        Check.end();
    }

    private boolean go() {
        build();
        for (int i = 0; i < CALLS && same; i++) {
            act();
        }
        askAll();
        return same;
    }

    /** Asks both, and answers what is due. */
    private int call(String name, int a, int b, int c, boolean on) {
        if (!same) {
            return Check.BEYOND;
        }
        int want = model.call(name, a, b, c, on);
        int got = callHall(name, a, b, c, on);
        same = got == want;
        told.append(name).append('(').append(a).append(", ").append(b).append(", ").append(c).append(", ").append(on)
            .append(") answered ").append(got).append(same ? "" : ", due is " + want).append('\n');
        return want;
    }

    private int callHall(String name, int a, int b, int c, boolean on) {
        switch (name) {
            case "point": return hall.point(a, b);
            case "belt": return hall.belt(a, b, c);
            case "as": return hall.as(a, b);
            case "turns": return hall.turns(a, b);
            case "flight": return hall.flight(a, b, c);
            case "fall": return hall.fall(a, on);
            case "bag": return hall.bag(a, b, on);
            case "take": return hall.take(a);
            case "give": return hall.give(a, b, on);
            case "where": return hall.where(a);
            case "place": return hall.place(a);
            case "detail": return hall.detail(a);
            case "steps": return hall.steps(a);
            case "step": return hall.step(a, b, on);
            case "tick": return hall.tick(a);
            case "cell": return hall.cell(a, b);
            case "holds": return hall.holds(a);
            case "list": return hall.list(a, b);
            case "far": return hall.far(a, b);
            case "route": return hall.route(a, b);
            case "flown": return hall.flown(a, b);
            case "count": return hall.count(a);
            case "keep": return hall.keep();
            case "back": return hall.back();
            default: throw new IllegalArgumentException(name);
        }
    }

    /** Mostly 0 to n - 1, now and then a number that is none or an extreme one. */
    private int some(int n) {
        if (random.nextInt(oddness) == 0) {
            int[] odd = {-1, n, -2, n + 1, Integer.MIN_VALUE, Integer.MAX_VALUE, random.nextInt()};
            return odd[random.nextInt(odd.length)];
        }
        return n > 0 ? random.nextInt(n) : 0;
    }

    private void build() {
        int points = 4 + random.nextInt(9);
        for (int i = 0; i < points; i++) {
            makePoint(i < 6 && random.nextInt(3) > 0 ? new int[] {0, 5, 1, 3, 2, 4}[i] : random.nextInt(6));
        }
        int belts = 6 + random.nextInt(22);
        for (int i = 0; i < belts; i++) {
            makeBelt();
        }
        int flights = 1 + random.nextInt(5);
        for (int i = 0; i < flights; i++) {
            makeFlight();
        }
        int bags = 3 + random.nextInt(20);
        for (int i = 0; i < bags; i++) {
            makeBag();
        }
    }

    private void makePoint(int kind) {
        call("point", random.nextInt(oddness) == 0 ? some(6) : kind, 1 + some(kind == 2 ? 9 : kind == 4 ? 4 : 20), 0, false);
    }

    /** Mostly a point of the kind, if there is one. */
    private int pointOfKind(int kind) {
        int point = some(points());
        for (int tries = 0; tries < 20 && call("as", point, kind, 0, false) == Check.KIND; tries++) {
            point = some(points());
        }
        return point;
    }

    private int points() {
        return model.call("count", 9, 0, 0, false);
    }

    private int belts() {
        return model.call("count", 10, 0, 0, false);
    }

    private int flights() {
        return model.call("count", 11, 0, 0, false);
    }

    private int bags() {
        return model.call("count", 8, 0, 0, false);
    }

    private void makeBelt() {
        int cells = 1 + (random.nextBoolean() ? some(2) : some(12));
        call("belt", some(points()), some(points()), cells, false);
    }

    private void makeFlight() {
        int opening = random.nextInt(4) == 0 ? some(5001) : some(40);
        int close = random.nextInt(4) == 0 ? some(5001) : opening + some(60);
        call("flight", pointOfKind(5), opening, close, false);
    }

    private void makeBag() {
        call("bag", pointOfKind(0), some(flights()), 0, random.nextInt(3) == 0);
    }

    private void act() {
        int what = random.nextInt(100);
        if (what < 25) {
            call("tick", random.nextInt(10) == 0 ? some(101) : 1 + some(4), 0, 0, false);
        } else if (what < 33) {
            makeBag();
        } else if (what < 39) {
            call("fall", some(belts()), 0, 0, random.nextInt(3) == 0);
        } else if (what < 44) {
            call("take", some(bags()), 0, 0, false);
        } else if (what < 49) {
            call("give", some(bags()), pointOfKind(0), 0, random.nextBoolean());
        } else if (what < 54) {
            call("turns", some(belts()), some(random.nextBoolean() ? 3 : 10), 0, false);
        } else if (what < 57) {
            grow();
        } else if (what < 60) {
            call(random.nextBoolean() ? "keep" : "back", 0, 0, 0, false);
        } else if (what < 61) {
            askAll();
        } else {
            ask(ASKS[random.nextInt(ASKS.length)]);
        }
    }

    private void grow() {
        int what = random.nextInt(6);
        if (what == 0) {
            makePoint(random.nextInt(6));
        } else if (what < 4) {
            makeBelt();
        } else {
            makeFlight();
        }
    }

    private void ask(String name) {
        int n = "as holds list far route".contains(name) ? points() : name.equals("cell") ? belts()
            : name.equals("flown") ? flights() : name.equals("count") ? 15 : bags();
        int m = name.equals("as") ? 6 : name.equals("far") ? points() : name.equals("route") ? flights()
            : name.equals("flown") ? 7 : name.equals("step") ? 31 : 5;
        call(name, some(n), some(m), 0, random.nextBoolean());
    }

    private void askAll() {
        for (int what = 0; what <= 14; what++) {
            call("count", what, 0, 0, false);
        }
        for (int p = 0; p < points(); p++) {
            call("holds", p, 0, 0, false);
            for (int i = -1; i < 8; i++) {
                call("list", p, i, 0, false);
            }
            for (int q = 0; q < points(); q++) {
                call("far", p, q, 0, false);
                call("route", p, q, 0, false);
            }
        }
        for (int b = 0; b < belts(); b++) {
            for (int cell = 0; cell < 12; cell++) {
                call("cell", b, cell, 0, false);
            }
        }
        for (int f = 0; f < flights(); f++) {
            for (int what = 0; what < 7; what++) {
                call("flown", f, what, 0, false);
            }
        }
        for (int bag = 0; bag < bags(); bag++) {
            askBag(bag);
        }
    }

    private void askBag(int bag) {
        call("where", bag, 0, 0, false);
        call("place", bag, 0, 0, false);
        call("detail", bag, 0, 0, false);
        call("steps", bag, 0, 0, false);
        for (int i = 0; i < 31; i += 1 + random.nextInt(6)) {
            call("step", bag, i, 0, true);
            call("step", bag, i, 0, false);
        }
    }
}
