/**
 * A hall of bags between desks and flights. ../shared/DOC.md tells what each call promises;
 * README.md tells how to use it.
 */
public final class BagHall {
    private static final int BEYOND = -1;
    private static final int NONE = -2;
    private static final int FULL = -3;
    private static final int KIND = -4;
    private static final int SAME = -5;
    private static final int TAKEN = -6;

    private static final int DESK = 0;
    private static final int MERGE = 1;
    private static final int SCREEN = 2;
    private static final int SORTER = 3;
    private static final int STORE = 4;
    private static final int CHUTE = 5;

    private static final int AT_DESK = 0;
    private static final int ON_BELT = 1;
    private static final int AT_POINT = 2;
    private static final int IN_STORE = 3;
    private static final int IN_HAND = 4;
    private static final int LOADED = 5;
    private static final int LATE = 6;
    private static final int ASTRAY = 7;

    private static final int MAX_POINTS = 12;
    private static final int MAX_BELTS = 16;
    private static final int MAX_FLIGHTS = 8;
    private static final int MAX_BAGS = 60;
    private static final int MAX_CELLS = 12;
    private static final int MAX_SCREEN_TICKS = 9;
    private static final int MAX_ROOM = 20;
    private static final int MAX_TURNS = 9;
    private static final int MAX_FLIGHT_TICK = 5000;
    private static final int MAX_TICKS_A_CALL = 100;
    private static final int MAX_STEPS_KEPT = 30;

    private static final int FIRST_TURNS = 1;
    private static final int PLACE_IN_HAND = -100;
    private static final int HOW_MANY = -1;

    /** Stands where a bag, a belt or a way could be and is none; it is no answer of a call. */
    private static final int NO = -1;

    private final Hall hall;
    private final Ways ways;
    private Hall kept;
    private int findings;

    public BagHall() {
        hall = new Hall();
        ways = new Ways();
        kept = null;
        findings = 0;
    }

    // ---- the hall

    public int point(int kind, int v) {
        if (!isKind(kind) || !suits(kind, v)) {
            return finding(BEYOND);
        }
        if (hall.pointCount >= MAX_POINTS) {
            return finding(FULL);
        }
        int number = hall.pointCount;
        hall.points[number].begin(kind, v);
        hall.pointCount++;
        ways.measure(hall);
        return number;
    }

    public int belt(int from, int to, int cells) {
        if (!hall.hasPoint(from) || !hall.hasPoint(to) || !within(cells, 1, MAX_CELLS)) {
            return finding(BEYOND);
        }
        if (from == to) {
            return finding(SAME);
        }
        if (hall.points[from].kind == CHUTE || hall.points[to].kind == DESK) {
            return finding(KIND);
        }
        if (hall.beltCount >= MAX_BELTS) {
            return finding(FULL);
        }
        int number = hall.beltCount;
        hall.belts[number].begin(from, to, cells);
        hall.points[to].meetInlet(number);
        hall.beltCount++;
        ways.measure(hall);
        return number;
    }

    public int as(int point, int kind) {
        if (!hall.hasPoint(point) || !isKind(kind)) {
            return finding(BEYOND);
        }
        return hall.points[point].kind == kind ? point : finding(KIND);
    }

    public int turns(int belt, int v) {
        if (!hall.hasBelt(belt) || !within(v, 0, MAX_TURNS)) {
            return finding(BEYOND);
        }
        Belt inlet = hall.belts[belt];
        if (!hall.isOfKind(inlet.to, MERGE)) {
            return finding(KIND);
        }
        int before = inlet.turns;
        inlet.turns = v;
        hall.points[inlet.to].limitLeft(belt, v);
        return before;
    }

    public int flight(int chute, int opening, int close) {
        if (!hall.hasPoint(chute) || !within(opening, 0, MAX_FLIGHT_TICK)
                || !within(close, opening, MAX_FLIGHT_TICK)) {
            return finding(BEYOND);
        }
        if (hall.points[chute].kind != CHUTE) {
            return finding(KIND);
        }
        if (hall.flightCount >= MAX_FLIGHTS) {
            return finding(FULL);
        }
        int number = hall.flightCount;
        hall.flights[number].begin(chute, opening, close);
        hall.flightCount++;
        return number;
    }

    public int fall(int belt, boolean on) {
        if (!hall.hasBelt(belt)) {
            return finding(BEYOND);
        }
        if (hall.belts[belt].fallen == on) {
            return 0;
        }
        hall.belts[belt].fallen = on;
        ways.measure(hall);
        return 1;
    }

    // ---- bags

    public int bag(int desk, int flight, boolean doubtful) {
        if (!hall.hasPoint(desk) || !hall.hasFlight(flight)) {
            return finding(BEYOND);
        }
        if (hall.points[desk].kind != DESK) {
            return finding(KIND);
        }
        if (hall.bagCount >= MAX_BAGS) {
            return finding(FULL);
        }
        int number = hall.bagCount;
        hall.bags[number].begin(flight);
        hall.bagCount++;
        hall.queue(number, desk, doubtful);
        return number;
    }

    public int take(int bag) {
        if (!hall.hasBag(bag)) {
            return finding(BEYOND);
        }
        if (hall.bags[bag].where >= IN_HAND) {
            return finding(TAKEN);
        }
        hall.lift(bag);
        return 1;
    }

    public int give(int bag, int desk, boolean doubtful) {
        if (!hall.hasBag(bag) || !hall.hasPoint(desk)) {
            return finding(BEYOND);
        }
        if (hall.points[desk].kind != DESK) {
            return finding(KIND);
        }
        if (hall.bags[bag].where != IN_HAND) {
            return finding(NONE);
        }
        hall.queue(bag, desk, doubtful);
        return hall.points[desk].size;
    }

    public int where(int bag) {
        return hall.hasBag(bag) ? hall.bags[bag].where : finding(BEYOND);
    }

    public int place(int bag) {
        return hall.hasBag(bag) ? hall.bags[bag].place : finding(BEYOND);
    }

    public int detail(int bag) {
        if (!hall.hasBag(bag)) {
            return finding(BEYOND);
        }
        Bag asked = hall.bags[bag];
        if (asked.where == IN_HAND) {
            return finding(NONE);
        }
        if (asked.where == ON_BELT && hall.hasBelt(asked.place)) {
            return hall.belts[asked.place].cellOf(bag);
        }
        if (asked.where == AT_DESK && hall.hasPoint(asked.place)) {
            return hall.points[asked.place].indexOf(bag);
        }
        return asked.came;
    }

    public int steps(int bag) {
        return hall.hasBag(bag) ? hall.bags[bag].stepCount : finding(BEYOND);
    }

    public int step(int bag, int i, boolean tick) {
        if (!hall.hasBag(bag) || !hall.bags[bag].keepsStep(i)) {
            return finding(BEYOND);
        }
        return tick ? hall.bags[bag].stepTick(i) : hall.bags[bag].stepPoint(i);
    }

    // ---- ticks

    public int tick(int n) {
        if (!within(n, 1, MAX_TICKS_A_CALL)) {
            return finding(BEYOND);
        }
        for (int i = 0; i < n; i++) {
            goOneTick();
        }
        return hall.tick;
    }

    public int cell(int belt, int cell) {
        if (!hall.hasBelt(belt) || !within(cell, 0, hall.belts[belt].length - 1)) {
            return finding(BEYOND);
        }
        int bag = hall.belts[belt].cells[cell];
        return bag == NO ? finding(NONE) : bag;
    }

    public int holds(int point) {
        if (!hall.hasPoint(point)) {
            return finding(BEYOND);
        }
        Point asked = hall.points[point];
        if (asked.kind != MERGE && asked.kind != SCREEN && asked.kind != SORTER) {
            return finding(KIND);
        }
        int bag = asked.first();
        return bag == NO ? finding(NONE) : bag;
    }

    public int list(int point, int i) {
        if (!hall.hasPoint(point)) {
            return finding(BEYOND);
        }
        Point asked = hall.points[point];
        if (asked.kind != DESK && asked.kind != STORE) {
            return finding(KIND);
        }
        if (i == HOW_MANY) {
            return asked.size;
        }
        return within(i, 0, asked.size - 1) ? asked.row[i] : finding(NONE);
    }

    public int far(int point, int chute) {
        if (!hall.hasPoint(point) || !hall.hasPoint(chute)) {
            return finding(BEYOND);
        }
        if (hall.points[chute].kind != CHUTE) {
            return finding(KIND);
        }
        int sum = ways.sums[chute][point];
        return sum == NO ? finding(NONE) : sum;
    }

    public int route(int point, int flight) {
        if (!hall.hasPoint(point) || !hall.hasFlight(flight)) {
            return finding(BEYOND);
        }
        if (hall.points[point].kind != SORTER) {
            return finding(KIND);
        }
        int outlet = ways.shortestOutlet(hall, point, hall.flights[flight].chute);
        return outlet == NO ? finding(NONE) : outlet;
    }

    public int flown(int flight, int what) {
        if (!hall.hasFlight(flight)) {
            return finding(BEYOND);
        }
        Flight asked = hall.flights[flight];
        switch (what) {
            case 0:
                return asked.chute;
            case 1:
                return asked.opening;
            case 2:
                return asked.close;
            case 3:
                return hall.bagsOfFlight(flight, LOADED);
            case 4:
                return hall.bagsOfFlight(flight, LATE);
            case 5:
                return hall.bagsOfFlight(flight, ASTRAY);
            case 6:
                return hall.bagsOfFlight(flight);
            default:
                return finding(BEYOND);
        }
    }

    public int count(int what) {
        if (within(what, AT_DESK, ASTRAY)) {
            return hall.bagsThatAre(what);
        }
        switch (what) {
            case 8:
                return hall.bagCount;
            case 9:
                return hall.pointCount;
            case 10:
                return hall.beltCount;
            case 11:
                return hall.flightCount;
            case 12:
                return hall.fallenBelts();
            case 13:
                return hall.tick;
            case 14:
                return findings;
            default:
                return finding(BEYOND);
        }
    }

    public int keep() {
        // Made once and used again, so that many calls of keep() take the room of one.
        if (kept == null) {
            kept = new Hall();
        }
        kept.copyFrom(hall);
        return hall.tick;
    }

    public int back() {
        if (kept == null) {
            return finding(NONE);
        }
        hall.copyFrom(kept);
        ways.measure(hall);
        return hall.tick;
    }

    // ---- how a tick goes

    private void goOneTick() {
        for (int i = 0; i < hall.beltCount; i++) {
            hall.belts[i].fresh = false;
        }
        for (int i = 0; i < hall.pointCount; i++) {
            sendFrom(i);
        }
        for (int i = 0; i < hall.beltCount; i++) {
            hall.belts[i].moveOn();
        }
        for (int i = 0; i < hall.pointCount; i++) {
            receiveAt(i);
        }
        hall.tick++;
    }

    private void sendFrom(int number) {
        Point point = hall.points[number];
        int bag = nextToGo(point);
        if (!hall.hasBag(bag)) {
            return;
        }
        int outlet = outletFor(number, hall.bags[bag]);
        if (!hall.hasBelt(outlet) || !hall.belts[outlet].canEnter()) {
            return;
        }
        point.leave(bag);
        hall.belts[outlet].enter(bag);
        hall.bags[bag].put(ON_BELT, outlet);
        if (point.kind == DESK) {
            hall.bags[bag].addStep(hall.tick, number);
        }
    }

    private int nextToGo(Point point) {
        if (point.kind == STORE) {
            return firstOpen(point);
        }
        int bag = point.first();
        if (point.kind == SCREEN && hall.hasBag(bag)) {
            return hall.tick - hall.bags[bag].came >= point.value ? bag : NO;
        }
        return bag;
    }

    // A store takes one bag a tick at most, so its row is in the order of coming.
    private int firstOpen(Point store) {
        for (int i = 0; i < store.size; i++) {
            int bag = store.row[i];
            if (hall.hasBag(bag) && isOpen(hall.bags[bag].flight)) {
                return bag;
            }
        }
        return NO;
    }

    private boolean isOpen(int flight) {
        return hall.hasFlight(flight) && hall.flights[flight].opening <= hall.tick;
    }

    private int outletFor(int number, Bag bag) {
        switch (hall.points[number].kind) {
            case SCREEN:
                return hall.screenOutlet(number, bag.doubtful);
            case SORTER:
                return hall.hasFlight(bag.flight)
                        ? ways.shortestOutlet(hall, number, hall.flights[bag.flight].chute) : NO;
            default:
                return hall.lowestSoundOutlet(number);
        }
    }

    private void receiveAt(int number) {
        Point point = hall.points[number];
        if (!point.hasRoom()) {
            return;
        }
        if (point.kind == MERGE) {
            receiveByTurns(number);
        } else {
            receiveByNumbers(number, point.kind == CHUTE);
        }
    }

    private void receiveByNumbers(int number, boolean all) {
        for (int i = 0; i < hall.beltCount; i++) {
            if (hall.belts[i].to == number && receiveFrom(i, number) && !all) {
                return;
            }
        }
    }

    private void receiveByTurns(int number) {
        Point merge = hall.points[number];
        int inlets = hall.inletsOf(number);
        // One more is asked than there are inlets: the first one again, with all its turns.
        for (int asked = 0; asked <= inlets; asked++) {
            if (asked > 0) {
                passTurn(number);
            }
            if (merge.turnsLeft > 0 && receiveFrom(merge.handInlet, number)) {
                merge.turnsLeft--;
                return;
            }
        }
    }

    private void passTurn(int number) {
        int next = hall.inletBehind(hall.points[number].handInlet, number);
        if (hall.hasBelt(next)) {
            hall.points[number].putAtHand(next, hall.belts[next].turns);
        }
    }

    private boolean receiveFrom(int inlet, int number) {
        if (!hall.hasBelt(inlet)) {
            return false;
        }
        int bag = hall.belts[inlet].readyBag();
        if (!hall.hasBag(bag)) {
            return false;
        }
        hall.belts[inlet].leave(bag);
        if (hall.points[number].kind != CHUTE) {
            hall.points[number].join(bag);
        }
        Bag received = hall.bags[bag];
        received.put(whereAt(number, received.flight), number);
        received.came = hall.tick;
        received.addStep(hall.tick, number);
        return true;
    }

    private int whereAt(int number, int flight) {
        int kind = hall.points[number].kind;
        if (kind != CHUTE) {
            return kind == STORE ? IN_STORE : AT_POINT;
        }
        if (!hall.hasFlight(flight) || hall.flights[flight].chute != number) {
            return ASTRAY;
        }
        return hall.tick < hall.flights[flight].close ? LOADED : LATE;
    }

    // ---- what all calls share

    private int finding(int which) {
        findings++;
        return which;
    }

    private static boolean within(int v, int least, int most) {
        return v >= least && v <= most;
    }

    private static boolean isKind(int kind) {
        return within(kind, DESK, CHUTE);
    }

    private static boolean suits(int kind, int v) {
        if (kind == SCREEN) {
            return within(v, 1, MAX_SCREEN_TICKS);
        }
        return kind != STORE || within(v, 1, MAX_ROOM);
    }

    /** A point with its bags in the order of coming: a desk's row, a store, or the one bag held. */
    private static final class Point {
        int kind;
        int value;
        int handInlet;
        int turnsLeft;
        int size;
        final int[] row = new int[MAX_BAGS];

        void begin(int newKind, int newValue) {
            kind = newKind;
            value = newValue;
            handInlet = NO;
            turnsLeft = 0;
            size = 0;
        }

        void meetInlet(int belt) {
            // Belts come by rising numbers, so the first one to come is the lowest.
            if (handInlet == NO) {
                putAtHand(belt, FIRST_TURNS);
            }
        }

        void putAtHand(int belt, int turns) {
            handInlet = belt;
            turnsLeft = turns;
        }

        void limitLeft(int belt, int most) {
            if (handInlet == belt) {
                turnsLeft = Math.min(turnsLeft, most);
            }
        }

        boolean hasRoom() {
            switch (kind) {
                case DESK:
                    return false;
                case STORE:
                    return size < value;
                case CHUTE:
                    return true;
                default:
                    return size == 0;
            }
        }

        int first() {
            return size > 0 ? row[0] : NO;
        }

        int indexOf(int bag) {
            for (int i = 0; i < size; i++) {
                if (row[i] == bag) {
                    return i;
                }
            }
            return NO;
        }

        void join(int bag) {
            if (size < row.length) {
                row[size] = bag;
                size++;
            }
        }

        void leave(int bag) {
            int gap = indexOf(bag);
            if (gap == NO) {
                return;
            }
            for (int i = gap + 1; i < size; i++) {
                row[i - 1] = row[i];
            }
            size--;
        }

        void copyFrom(Point other) {
            kind = other.kind;
            value = other.value;
            handInlet = other.handInlet;
            turnsLeft = other.turnsLeft;
            size = other.size;
            System.arraycopy(other.row, 0, row, 0, row.length);
        }
    }

    private static final class Belt {
        int from;
        int to;
        int length;
        int turns;
        boolean fallen;
        /** Cell 0 was filled in this tick, so its bag neither moves nor is taken in it. */
        boolean fresh;
        final int[] cells = new int[MAX_CELLS];

        void begin(int newFrom, int newTo, int newLength) {
            from = newFrom;
            to = newTo;
            length = newLength;
            turns = FIRST_TURNS;
            fallen = false;
            fresh = false;
            for (int i = 0; i < cells.length; i++) {
                cells[i] = NO;
            }
        }

        boolean canEnter() {
            return !fallen && cells[0] == NO;
        }

        void enter(int bag) {
            cells[0] = bag;
            fresh = true;
        }

        void moveOn() {
            if (fallen) {
                return;
            }
            int lowestMover = fresh ? 1 : 0;
            for (int i = length - 2; i >= lowestMover; i--) {
                if (cells[i + 1] == NO) {
                    cells[i + 1] = cells[i];
                    cells[i] = NO;
                }
            }
        }

        int readyBag() {
            boolean justGiven = fresh && length == 1;
            return fallen || justGiven || length < 1 ? NO : cells[length - 1];
        }

        int cellOf(int bag) {
            for (int i = 0; i < length; i++) {
                if (cells[i] == bag) {
                    return i;
                }
            }
            return NO;
        }

        void leave(int bag) {
            int cell = cellOf(bag);
            if (cell != NO) {
                cells[cell] = NO;
            }
        }

        void copyFrom(Belt other) {
            from = other.from;
            to = other.to;
            length = other.length;
            turns = other.turns;
            fallen = other.fallen;
            fresh = other.fresh;
            System.arraycopy(other.cells, 0, cells, 0, cells.length);
        }
    }

    private static final class Flight {
        int chute;
        int opening;
        int close;

        void begin(int newChute, int newOpening, int newClose) {
            chute = newChute;
            opening = newOpening;
            close = newClose;
        }

        void copyFrom(Flight other) {
            begin(other.chute, other.opening, other.close);
        }
    }

    private static final class Bag {
        int flight;
        boolean doubtful;
        int where;
        int place;
        int came;
        int stepCount;
        /** Tick and point of a step lie in one number, which halves the room that ways need. */
        final int[] way = new int[MAX_STEPS_KEPT];

        void begin(int newFlight) {
            flight = newFlight;
            doubtful = false;
            stepCount = 0;
            came = 0;
            put(IN_HAND, PLACE_IN_HAND);
        }

        void put(int newWhere, int newPlace) {
            where = newWhere;
            place = newPlace;
        }

        void addStep(int tick, int point) {
            if (stepCount >= 0 && stepCount < way.length) {
                way[stepCount] = tick * MAX_POINTS + point;
            }
            stepCount++;
        }

        boolean keepsStep(int i) {
            return i >= 0 && i < stepCount && i < way.length;
        }

        int stepTick(int i) {
            return keepsStep(i) ? way[i] / MAX_POINTS : NO;
        }

        int stepPoint(int i) {
            return keepsStep(i) ? way[i] % MAX_POINTS : NO;
        }

        void copyFrom(Bag other) {
            flight = other.flight;
            doubtful = other.doubtful;
            where = other.where;
            place = other.place;
            came = other.came;
            stepCount = other.stepCount;
            System.arraycopy(other.way, 0, way, 0, way.length);
        }
    }

    /** All that keep() keeps. Every row is made at once; the counts tell how much of it is in use. */
    private static final class Hall {
        final Point[] points = new Point[MAX_POINTS];
        final Belt[] belts = new Belt[MAX_BELTS];
        final Flight[] flights = new Flight[MAX_FLIGHTS];
        final Bag[] bags = new Bag[MAX_BAGS];
        int pointCount;
        int beltCount;
        int flightCount;
        int bagCount;
        int tick;

        Hall() {
            for (int i = 0; i < points.length; i++) {
                points[i] = new Point();
            }
            for (int i = 0; i < belts.length; i++) {
                belts[i] = new Belt();
            }
            for (int i = 0; i < flights.length; i++) {
                flights[i] = new Flight();
            }
            for (int i = 0; i < bags.length; i++) {
                bags[i] = new Bag();
            }
        }

        boolean hasPoint(int point) {
            return point >= 0 && point < pointCount;
        }

        boolean hasBelt(int belt) {
            return belt >= 0 && belt < beltCount;
        }

        boolean hasFlight(int flight) {
            return flight >= 0 && flight < flightCount;
        }

        boolean hasBag(int bag) {
            return bag >= 0 && bag < bagCount;
        }

        boolean isOfKind(int point, int kind) {
            return hasPoint(point) && points[point].kind == kind;
        }

        void queue(int bag, int desk, boolean doubtful) {
            if (hasBag(bag) && hasPoint(desk)) {
                bags[bag].doubtful = doubtful;
                bags[bag].put(AT_DESK, desk);
                points[desk].join(bag);
            }
        }

        void lift(int bag) {
            if (!hasBag(bag)) {
                return;
            }
            Bag lifted = bags[bag];
            if (lifted.where == ON_BELT) {
                if (hasBelt(lifted.place)) {
                    belts[lifted.place].leave(bag);
                }
            } else if (hasPoint(lifted.place)) {
                points[lifted.place].leave(bag);
            }
            lifted.put(IN_HAND, PLACE_IN_HAND);
        }

        int inletsOf(int point) {
            int inlets = 0;
            for (int i = 0; i < beltCount; i++) {
                if (belts[i].to == point) {
                    inlets++;
                }
            }
            return inlets;
        }

        /** The next inlet by numbers, behind the last one the first. */
        int inletBehind(int inlet, int point) {
            int lowest = NO;
            for (int i = 0; i < beltCount; i++) {
                if (belts[i].to == point) {
                    if (i > inlet) {
                        return i;
                    }
                    if (lowest == NO) {
                        lowest = i;
                    }
                }
            }
            return lowest;
        }

        int lowestSoundOutlet(int point) {
            for (int i = 0; i < beltCount; i++) {
                if (belts[i].from == point && !belts[i].fallen) {
                    return i;
                }
            }
            return NO;
        }

        /** The lowest outlet or, if it is asked for and there is one, the second lowest. */
        int screenOutlet(int point, boolean second) {
            int lowest = NO;
            for (int i = 0; i < beltCount; i++) {
                if (belts[i].from == point) {
                    if (lowest != NO) {
                        return i;
                    }
                    lowest = i;
                    if (!second) {
                        return lowest;
                    }
                }
            }
            return lowest;
        }

        int bagsThatAre(int where) {
            int found = 0;
            for (int i = 0; i < bagCount; i++) {
                if (bags[i].where == where) {
                    found++;
                }
            }
            return found;
        }

        int bagsOfFlight(int flight) {
            int found = 0;
            for (int i = 0; i < bagCount; i++) {
                if (bags[i].flight == flight) {
                    found++;
                }
            }
            return found;
        }

        int bagsOfFlight(int flight, int where) {
            int found = 0;
            for (int i = 0; i < bagCount; i++) {
                if (bags[i].flight == flight && bags[i].where == where) {
                    found++;
                }
            }
            return found;
        }

        int fallenBelts() {
            int found = 0;
            for (int i = 0; i < beltCount; i++) {
                if (belts[i].fallen) {
                    found++;
                }
            }
            return found;
        }

        void copyFrom(Hall other) {
            for (int i = 0; i < MAX_POINTS; i++) {
                points[i].copyFrom(other.points[i]);
            }
            for (int i = 0; i < MAX_BELTS; i++) {
                belts[i].copyFrom(other.belts[i]);
            }
            for (int i = 0; i < MAX_FLIGHTS; i++) {
                flights[i].copyFrom(other.flights[i]);
            }
            for (int i = 0; i < MAX_BAGS; i++) {
                bags[i].copyFrom(other.bags[i]);
            }
            pointCount = other.pointCount;
            beltCount = other.beltCount;
            flightCount = other.flightCount;
            bagCount = other.bagCount;
            tick = other.tick;
        }
    }

    /**
     * FAR of every point to every chute. Measured when belts change and not when it is asked,
     * since sorters ask at every tick.
     */
    private static final class Ways {
        /** By chute, then by point; NO where no way leads. */
        final int[][] sums = new int[MAX_POINTS][MAX_POINTS];

        void measure(Hall hall) {
            for (int chute = 0; chute < hall.pointCount; chute++) {
                if (hall.points[chute].kind == CHUTE) {
                    measureTo(chute, hall);
                }
            }
        }

        private void measureTo(int chute, Hall hall) {
            for (int point = 0; point < MAX_POINTS; point++) {
                sums[chute][point] = point == chute ? 0 : NO;
            }
            // A shortest way has fewer belts than there are points, and each round settles
            // those with one belt more at least.
            boolean shorter = true;
            for (int round = 0; round < hall.pointCount && shorter; round++) {
                shorter = false;
                for (int i = 0; i < hall.beltCount; i++) {
                    shorter |= shortenBy(hall.belts[i], chute, hall);
                }
            }
        }

        // No belt leads to a DESK or from a CHUTE, so no way goes through one.
        private boolean shortenBy(Belt belt, int chute, Hall hall) {
            if (belt.fallen || !hall.hasPoint(belt.from) || !hall.hasPoint(belt.to)) {
                return false;
            }
            int behind = sums[chute][belt.to];
            int before = sums[chute][belt.from];
            if (behind == NO || (before != NO && before <= belt.length + behind)) {
                return false;
            }
            sums[chute][belt.from] = belt.length + behind;
            return true;
        }

        int shortestOutlet(Hall hall, int point, int chute) {
            if (!hall.hasPoint(chute)) {
                return NO;
            }
            int best = NO;
            int least = 0;
            for (int i = 0; i < hall.beltCount; i++) {
                Belt belt = hall.belts[i];
                if (belt.from == point && !belt.fallen && hall.hasPoint(belt.to)) {
                    int behind = sums[chute][belt.to];
                    if (behind != NO && (best == NO || belt.length + behind < least)) {
                        best = i;
                        least = belt.length + behind;
                    }
                }
            }
            return best;
        }
    }
}
