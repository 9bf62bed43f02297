/** A hall and its plain model, which are asked the same calls and must answer the same. */
final class Both {
    /** The document promises nothing of an object behind so many calls. */
    static final int MOST_CALLS = 512;

    private final BagHall hall = new BagHall();
    private final PlainModel model = new PlainModel();
    private final StringBuilder told = new StringBuilder();
    private boolean same = true;
    private int calls = 0;

    PlainModel model() {
        return model;
    }

    boolean same() {
        return same;
    }

    int callsLeft() {
        return same ? MOST_CALLS - calls : 0;
    }

    /** All calls with their answers, the last one being that which is not as due. */
    String told() {
        return told.toString();
    }

    /** Asks both, unless no call is left. */
    void call(String name, int a, int b, int c, boolean on) {
        if (callsLeft() == 0) {
            return;
        }
        calls++;
        int want = model.call(name, a, b, c, on);
        int got = callHall(name, a, b, c, on);
        same = got == want;
        told.append(name).append('(').append(a).append(", ").append(b).append(", ").append(c).append(", ").append(on)
            .append(") answered ").append(got).append(same ? "" : ", due is " + want).append('\n');
    }

    private int callHall(String name, int a, int b, int c, boolean on) {
        switch (name) {
            case "point": return hall.point(a, b);
            case "belt": return hall.belt(a, b, c);
            case "as": return hall.as(a, b);
            case "turns": return hall.turns(a, b);
            case "flight": return hall.flight(a, b, c);
            case "fall": return hall.fall(a, on);
            case "bag": return hall.bag(a, b, on);
            case "take": return hall.take(a);
            case "give": return hall.give(a, b, on);
            case "where": return hall.where(a);
            case "place": return hall.place(a);
            case "detail": return hall.detail(a);
            case "steps": return hall.steps(a);
            case "step": return hall.step(a, b, on);
            case "tick": return hall.tick(a);
            case "cell": return hall.cell(a, b);
            case "holds": return hall.holds(a);
            case "list": return hall.list(a, b);
            case "far": return hall.far(a, b);
            case "route": return hall.route(a, b);
            case "flown": return hall.flown(a, b);
            case "count": return hall.count(a);
            case "keep": return hall.keep();
            case "back": return hall.back();
            default: throw new IllegalArgumentException(name);
        }
    }
}
