import java.util.ArrayList;
import java.util.Comparator;
import java.util.List;

/**
 * The document once more, in the slowest and plainest form: rows of numbers, each thing looked up
 * anew, ways tried out one by one. RandomRunsTest holds BagHall against it.
 */
final class PlainModel {
    private static final int BEYOND = -1;
    private static final int NONE = -2;
    private static final int FULL = -3;
    private static final int KIND = -4;
    private static final int SAME = -5;
    private static final int TAKEN = -6;

    // Columns of a point, a belt, a flight, a bag.
    private static final int P_KIND = 0;
    private static final int P_V = 1;
    private static final int P_HAND = 2;
    private static final int P_LEFT = 3;
    private static final int B_FROM = 0;
    private static final int B_TO = 1;
    private static final int B_CELLS = 2;
    private static final int B_FALLEN = 3;
    private static final int B_TURNS = 4;
    private static final int F_CHUTE = 0;
    private static final int F_OPENING = 1;
    private static final int F_CLOSE = 2;
    private static final int G_FLIGHT = 0;
    private static final int G_DOUBTFUL = 1;
    private static final int G_WHERE = 2;
    private static final int G_PLACE = 3;
    /** The cell, the tick at which it came, or for a desk the place in the line of all that ever waited. */
    private static final int G_DETAIL = 4;
    private static final int G_GIVEN = 5;

    private List<int[]> points = new ArrayList<>();
    private List<int[]> belts = new ArrayList<>();
    private List<int[]> flights = new ArrayList<>();
    private List<int[]> bags = new ArrayList<>();
    /** Each step as bag, tick, point. */
    private List<int[]> ways = new ArrayList<>();
    private int tick = 0;
    private int waited = 0;
    private PlainModel kept = null;
    private int findings = 0;

    private int told(int answer) {
        if (answer < 0 && answer != -100) {
            findings++;
        }
        return answer;
    }

    private static boolean in(List<int[]> rows, int i) {
        return i >= 0 && i < rows.size();
    }

    private int kind(int point) {
        return points.get(point)[P_KIND];
    }

    /** For a test that looks for a point of a kind; it is no call. */
    int kindOf(int point) {
        return in(points, point) ? kind(point) : -1;
    }

    int call(String name, int a, int b, int c, boolean on) {
        switch (name) {
            case "point": return told(makePoint(a, b));
            case "belt": return told(makeBelt(a, b, c));
            case "as": return told(!in(points, a) || b < 0 || b > 5 ? BEYOND : kind(a) == b ? a : KIND);
            case "turns": return told(setTurns(a, b));
            case "flight": return told(makeFlight(a, b, c));
            case "fall": return told(setFallen(a, on));
            case "bag": return told(makeBag(a, b, on));
            case "take": return told(takeByHand(a));
            case "give": return told(giveByHand(a, b, on));
            case "where": return told(in(bags, a) ? bags.get(a)[G_WHERE] : BEYOND);
            case "place": return told(in(bags, a) ? bags.get(a)[G_PLACE] : BEYOND);
            case "detail": return told(detailOf(a));
            case "steps": return told(in(bags, a) ? wayOf(a).size() : BEYOND);
            case "step": return told(stepOf(a, b, on));
            case "tick": return told(goOn(a));
            case "cell": return told(inCell(a, b));
            case "holds": return told(heldBy(a));
            case "list": return told(listed(a, b));
            case "far": return told(farTo(a, b));
            case "route": return told(routeOf(a, b));
            case "flown": return told(flownOf(a, b));
            case "count": return a == 14 ? findings : told(countOf(a));
            case "keep": kept = copy(); return tick;
            case "back": return told(goBack());
            default: throw new IllegalArgumentException(name);
        }
    }

    private int makePoint(int kind, int v) {
        if (kind < 0 || kind > 5 || kind == 2 && (v < 1 || v > 9) || kind == 4 && (v < 1 || v > 20)) {
            return BEYOND;
        }
        if (points.size() == 12) {
            return FULL;
        }
        points.add(new int[] {kind, v, -1, 0});
        return points.size() - 1;
    }

    private int makeBelt(int from, int to, int cells) {
        if (!in(points, from) || !in(points, to) || cells < 1 || cells > 12) {
            return BEYOND;
        }
        if (from == to) {
            return SAME;
        }
        if (kind(from) == 5 || kind(to) == 0) {
            return KIND;
        }
        if (belts.size() == 16) {
            return FULL;
        }
        belts.add(new int[] {from, to, cells, 0, 1});
        return belts.size() - 1;
    }

    private int setTurns(int belt, int v) {
        if (!in(belts, belt) || v < 0 || v > 9) {
            return BEYOND;
        }
        int[] row = belts.get(belt);
        if (kind(row[B_TO]) != 1) {
            return KIND;
        }
        int was = row[B_TURNS];
        row[B_TURNS] = v;
        int[] merge = points.get(row[B_TO]);
        if (merge[P_HAND] == belt && merge[P_LEFT] > v) {
            merge[P_LEFT] = v;
        }
        return was;
    }

    private int makeFlight(int chute, int opening, int close) {
        if (!in(points, chute) || opening < 0 || opening > 5000 || close < 0 || close > 5000 || opening > close) {
            return BEYOND;
        }
        if (kind(chute) != 5) {
            return KIND;
        }
        if (flights.size() == 8) {
            return FULL;
        }
        flights.add(new int[] {chute, opening, close});
        return flights.size() - 1;
    }

    private int setFallen(int belt, boolean on) {
        if (!in(belts, belt)) {
            return BEYOND;
        }
        int was = belts.get(belt)[B_FALLEN];
        belts.get(belt)[B_FALLEN] = on ? 1 : 0;
        return was == belts.get(belt)[B_FALLEN] ? 0 : 1;
    }

    private int makeBag(int desk, int flight, boolean doubtful) {
        if (!in(points, desk) || !in(flights, flight)) {
            return BEYOND;
        }
        if (kind(desk) != 0) {
            return KIND;
        }
        if (bags.size() == 60) {
            return FULL;
        }
        bags.add(new int[] {flight, doubtful ? 1 : 0, 0, desk, waited++, 0});
        return bags.size() - 1;
    }

    private int takeByHand(int bag) {
        if (!in(bags, bag)) {
            return BEYOND;
        }
        if (bags.get(bag)[G_WHERE] > 3) {
            return TAKEN;
        }
        put(bag, 4, -100, 0);
        return 1;
    }

    private int giveByHand(int bag, int desk, boolean doubtful) {
        if (!in(bags, bag) || !in(points, desk)) {
            return BEYOND;
        }
        if (kind(desk) != 0) {
            return KIND;
        }
        if (bags.get(bag)[G_WHERE] != 4) {
            return NONE;
        }
        bags.get(bag)[G_DOUBTFUL] = doubtful ? 1 : 0;
        put(bag, 0, desk, waited++);
        return bagsAt(0, desk).size();
    }

    private void put(int bag, int where, int place, int detail) {
        int[] row = bags.get(bag);
        row[G_WHERE] = where;
        row[G_PLACE] = place;
        row[G_DETAIL] = detail;
    }

    /** The bags of a desk, a point or a store, by coming and then by numbers. */
    private List<Integer> bagsAt(int where, int place) {
        List<Integer> found = new ArrayList<>();
        for (int i = 0; i < bags.size(); i++) {
            if (bags.get(i)[G_WHERE] == where && bags.get(i)[G_PLACE] == place) {
                found.add(i);
            }
        }
        found.sort(Comparator.comparingInt((Integer i) -> bags.get(i)[G_DETAIL]).thenComparingInt(i -> i));
        return found;
    }

    private int bagOn(int belt, int cell) {
        for (int i = 0; i < bags.size(); i++) {
            int[] row = bags.get(i);
            if (row[G_WHERE] == 1 && row[G_PLACE] == belt && row[G_DETAIL] == cell) {
                return i;
            }
        }
        return -1;
    }

    private int detailOf(int bag) {
        if (!in(bags, bag)) {
            return BEYOND;
        }
        int[] row = bags.get(bag);
        if (row[G_WHERE] == 4) {
            return NONE;
        }
        return row[G_WHERE] == 0 ? bagsAt(0, row[G_PLACE]).indexOf(bag) : row[G_DETAIL];
    }

    private List<int[]> wayOf(int bag) {
        List<int[]> way = new ArrayList<>();
        for (int[] step : ways) {
            if (step[0] == bag) {
                way.add(step);
            }
        }
        return way;
    }

    private int stepOf(int bag, int i, boolean asTick) {
        if (!in(bags, bag)) {
            return BEYOND;
        }
        List<int[]> way = wayOf(bag);
        if (i < 0 || i >= 30 || i >= way.size()) {
            return BEYOND;
        }
        return way.get(i)[asTick ? 1 : 2];
    }

    private int inCell(int belt, int cell) {
        if (!in(belts, belt) || cell < 0 || cell >= belts.get(belt)[B_CELLS]) {
            return BEYOND;
        }
        int bag = bagOn(belt, cell);
        return bag < 0 ? NONE : bag;
    }

    private int heldBy(int point) {
        if (!in(points, point)) {
            return BEYOND;
        }
        if (kind(point) < 1 || kind(point) > 3) {
            return KIND;
        }
        List<Integer> held = bagsAt(2, point);
        return held.isEmpty() ? NONE : held.get(0);
    }

    private int listed(int point, int i) {
        if (!in(points, point)) {
            return BEYOND;
        }
        if (kind(point) != 0 && kind(point) != 4) {
            return KIND;
        }
        List<Integer> found = bagsAt(kind(point) == 0 ? 0 : 3, point);
        if (i == -1) {
            return found.size();
        }
        return i >= 0 && i < found.size() ? found.get(i) : NONE;
    }

    /** Tries every way that comes to no point twice; -1 without one. */
    private int far(int point, int chute, boolean[] been, boolean first) {
        if (point == chute) {
            return 0;
        }
        if (been[point] || !first && (kind(point) == 0 || kind(point) == 5)) {
            return -1;
        }
        been[point] = true;
        int least = -1;
        for (int[] belt : belts) {
            if (belt[B_FROM] == point && belt[B_FALLEN] == 0) {
                int rest = far(belt[B_TO], chute, been, false);
                if (rest >= 0 && (least < 0 || belt[B_CELLS] + rest < least)) {
                    least = belt[B_CELLS] + rest;
                }
            }
        }
        been[point] = false;
        return least;
    }

    private int farTo(int point, int chute) {
        if (!in(points, point) || !in(points, chute)) {
            return BEYOND;
        }
        if (kind(chute) != 5) {
            return KIND;
        }
        int sum = far(point, chute, new boolean[12], true);
        return sum < 0 ? NONE : sum;
    }

    private int bestOutlet(int point, int chute) {
        int best = -1;
        int least = Integer.MAX_VALUE;
        for (int i = 0; i < belts.size(); i++) {
            int[] belt = belts.get(i);
            if (belt[B_FROM] == point && belt[B_FALLEN] == 0) {
                int rest = far(belt[B_TO], chute, new boolean[12], true);
                if (rest >= 0 && belt[B_CELLS] + rest < least) {
                    best = i;
                    least = belt[B_CELLS] + rest;
                }
            }
        }
        return best;
    }

    private int routeOf(int point, int flight) {
        if (!in(points, point) || !in(flights, flight)) {
            return BEYOND;
        }
        if (kind(point) != 3) {
            return KIND;
        }
        int best = bestOutlet(point, flights.get(flight)[F_CHUTE]);
        return best < 0 ? NONE : best;
    }

    private int flownOf(int flight, int what) {
        if (!in(flights, flight) || what < 0 || what > 6) {
            return BEYOND;
        }
        if (what < 3) {
            return flights.get(flight)[what];
        }
        int found = 0;
        for (int[] bag : bags) {
            if (bag[G_FLIGHT] == flight && (what == 6 || bag[G_WHERE] == what + 2)) {
                found++;
            }
        }
        return found;
    }

    private int countOf(int what) {
        if (what < 0 || what > 13) {
            return BEYOND;
        }
        int found = 0;
        if (what < 8) {
            for (int[] bag : bags) {
                found += bag[G_WHERE] == what ? 1 : 0;
            }
            return found;
        }
        for (int[] belt : belts) {
            found += belt[B_FALLEN];
        }
        return new int[] {bags.size(), points.size(), belts.size(), flights.size(), found, tick}[what - 8];
    }

    private PlainModel copy() {
        PlainModel other = new PlainModel();
        other.points = rows(points);
        other.belts = rows(belts);
        other.flights = rows(flights);
        other.bags = rows(bags);
        other.ways = rows(ways);
        other.tick = tick;
        other.waited = waited;
        return other;
    }

    private static List<int[]> rows(List<int[]> from) {
        List<int[]> to = new ArrayList<>();
        for (int[] row : from) {
            to.add(row.clone());
        }
        return to;
    }

    private int goBack() {
        if (kept == null) {
            return NONE;
        }
        PlainModel was = kept.copy();
        points = was.points;
        belts = was.belts;
        flights = was.flights;
        bags = was.bags;
        ways = was.ways;
        tick = was.tick;
        waited = was.waited;
        return tick;
    }

    private int goOn(int n) {
        if (n < 1 || n > 100) {
            return BEYOND;
        }
        for (int i = 0; i < n; i++) {
            pointsGive();
            beltsMove();
            pointsTake();
            tick++;
        }
        return tick;
    }

    private List<Integer> beltsWith(int column, int point) {
        List<Integer> found = new ArrayList<>();
        for (int i = 0; i < belts.size(); i++) {
            if (belts.get(i)[column] == point) {
                found.add(i);
            }
        }
        return found;
    }

    private boolean sound(int belt) {
        return belts.get(belt)[B_FALLEN] == 0;
    }

    private int lowestSound(List<Integer> some) {
        for (int belt : some) {
            if (sound(belt)) {
                return belt;
            }
        }
        return -1;
    }

    private void pointsGive() {
        for (int[] bag : bags) {
            bag[G_GIVEN] = 0;
        }
        for (int p = 0; p < points.size(); p++) {
            List<Integer> outlets = beltsWith(B_FROM, p);
            if (kind(p) == 0) {
                List<Integer> row = bagsAt(0, p);
                if (!row.isEmpty() && onto(row.get(0), lowestSound(outlets))) {
                    ways.add(new int[] {row.get(0), tick, p});
                }
            } else if (kind(p) == 4) {
                for (int bag : bagsAt(3, p)) {
                    if (flights.get(bags.get(bag)[G_FLIGHT])[F_OPENING] <= tick) {
                        onto(bag, lowestSound(outlets));
                        break;
                    }
                }
            } else if (!bagsAt(2, p).isEmpty()) {
                give(p, bagsAt(2, p).get(0), outlets);
            }
        }
    }

    private void give(int p, int bag, List<Integer> outlets) {
        int[] row = bags.get(bag);
        if (kind(p) == 1) {
            onto(bag, lowestSound(outlets));
        } else if (kind(p) == 3) {
            onto(bag, bestOutlet(p, flights.get(row[G_FLIGHT])[F_CHUTE]));
        } else if (tick >= row[G_DETAIL] + points.get(p)[P_V] && !outlets.isEmpty()) {
            int outlet = outlets.get(row[G_DOUBTFUL] == 1 && outlets.size() > 1 ? 1 : 0);
            if (sound(outlet)) {
                onto(bag, outlet);
            }
        }
    }

    private boolean onto(int bag, int belt) {
        if (belt < 0 || bagOn(belt, 0) >= 0) {
            return false;
        }
        put(bag, 1, belt, 0);
        bags.get(bag)[G_GIVEN] = 1;
        return true;
    }

    private void beltsMove() {
        for (int b = 0; b < belts.size(); b++) {
            for (int cell = belts.get(b)[B_CELLS] - 2; cell >= 0 && sound(b); cell--) {
                int bag = bagOn(b, cell);
                if (bag >= 0 && bags.get(bag)[G_GIVEN] == 0 && bagOn(b, cell + 1) < 0) {
                    bags.get(bag)[G_DETAIL]++;
                }
            }
        }
    }

    /** The bag that a belt could hand to the point behind it, or -1. */
    private int ready(int belt) {
        int bag = bagOn(belt, belts.get(belt)[B_CELLS] - 1);
        return sound(belt) && bag >= 0 && bags.get(bag)[G_GIVEN] == 0 ? bag : -1;
    }

    private void pointsTake() {
        for (int p = 0; p < points.size(); p++) {
            List<Integer> inlets = beltsWith(B_TO, p);
            switch (kind(p)) {
                case 1:
                    if (bagsAt(2, p).isEmpty() && !inlets.isEmpty()) {
                        takeByTurns(p, inlets);
                    }
                    break;
                case 2:
                case 3:
                    if (bagsAt(2, p).isEmpty()) {
                        takeFromLowest(p, 2, inlets);
                    }
                    break;
                case 4:
                    if (bagsAt(3, p).size() < points.get(p)[P_V]) {
                        takeFromLowest(p, 3, inlets);
                    }
                    break;
                case 5:
                    for (int inlet : inlets) {
                        int bag = ready(inlet);
                        if (bag >= 0) {
                            come(bag, end(p, bag), p);
                        }
                    }
                    break;
                default:
                    break;
            }
        }
    }

    private int end(int chute, int bag) {
        int[] flight = flights.get(bags.get(bag)[G_FLIGHT]);
        if (flight[F_CHUTE] != chute) {
            return 7;
        }
        return tick < flight[F_CLOSE] ? 5 : 6;
    }

    private void come(int bag, int where, int point) {
        put(bag, where, point, tick);
        ways.add(new int[] {bag, tick, point});
    }

    private void takeFromLowest(int p, int where, List<Integer> inlets) {
        for (int inlet : inlets) {
            int bag = ready(inlet);
            if (bag >= 0) {
                come(bag, where, p);
                return;
            }
        }
    }

    private void takeByTurns(int p, List<Integer> inlets) {
        int[] merge = points.get(p);
        if (merge[P_HAND] < 0) {
            merge[P_HAND] = inlets.get(0);
            merge[P_LEFT] = belts.get(inlets.get(0))[B_TURNS];
        }
        int first = inlets.indexOf(merge[P_HAND]);
        for (int asked = 0; asked <= inlets.size(); asked++) {
            int inlet = inlets.get((first + asked) % inlets.size());
            merge[P_HAND] = inlet;
            if (asked > 0) {
                merge[P_LEFT] = belts.get(inlet)[B_TURNS];
            }
            int bag = ready(inlet);
            if (bag >= 0 && merge[P_LEFT] > 0) {
                merge[P_LEFT]--;
                come(bag, 2, p);
                return;
            }
        }
    }
}
