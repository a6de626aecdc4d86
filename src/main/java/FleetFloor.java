import java.util.ArrayList;

/** A floor on which vehicles carry things between stations; DOC.md says what each call answers. */
public final class FleetFloor {
    public static final int NONE = -1;
    public static final int WALL = 0;
    public static final int FLOOR = 1;
    public static final int STATION = 2;
    public static final int PARKING = 3;

    private static final int WIDTH = 12;
    private static final int HEIGHT = 8;
    private static final int CELLS = WIDTH * HEIGHT;
    private static final int DIRECTIONS = 4;

    private static final int MOST_PARKINGS = 6;
    private static final int FEWEST_STATIONS = 2;
    private static final int MOST_STATIONS = 16;
    private static final int MOST_TASKS = 24;
    private static final int MOST_LETTERS = 60;
    private static final int LONGEST_PLAN = 150;

    private static final int PLAN_EVERY = 4;
    private static final int REPORT_EVERY = 8;

    private static final int LIMIT = 0;
    private static final int DONE = 1;

    private final FloorMap map;
    private final Air air;
    private final ArrayList<Task> tasks;
    private Vehicle[] vehicles;
    private int[] stations;
    private Planner planner;
    private int planned;
    private int tickToCome;
    private int planClock;

    public FleetFloor() {
        map = new FloorMap();
        air = new Air();
        tasks = new ArrayList<Task>();
        vehicles = new Vehicle[0];
        stations = new int[0];
        planner = null;
        planned = 0;
        tickToCome = 0;
        planClock = 0;
    }

    public boolean cell(int cell, int kind) {
        return !isOpen() && map.change(cell, kind);
    }

    public int open() throws IllegalArgumentException, IllegalStateException {
        if (isOpen()) {
            throw new IllegalStateException("the floor is open already");
        }
        if (!map.isGood()) {
            throw new IllegalArgumentException("the map is not good");
        }
        stations = map.cellsOf(STATION);
        int[] parkings = map.cellsOf(PARKING);
        vehicles = new Vehicle[parkings.length];
        for (int v = 0; v < parkings.length; v++) {
            vehicles[v] = new Vehicle(v, parkings[v]);
        }
        Cells common = new Cells();
        map.collect(FLOOR, common);
        map.collect(STATION, common);
        planner = new Planner(common, vehicles);
        return vehicles.length;
    }

    public int task(int first, int second) throws IllegalStateException, IllegalArgumentException {
        if (!isOpen() || tasks.size() >= MOST_TASKS) {
            throw new IllegalStateException("the floor is not open, or there were all tasks");
        }
        if (!isStation(first) || !isStation(second)) {
            throw new IllegalArgumentException("there is no such station");
        }
        tasks.add(new Task(stations[first], stations[second]));
        return tasks.size() - 1;
    }

    public int tick() throws IllegalStateException {
        if (!isOpen()) {
            throw new IllegalStateException("the floor is not open");
        }
        int moved = makeMoves();
        sendDones();
        if (tickToCome % PLAN_EVERY == 0) {
            makePlans();
        }
        grantMoves();
        tickToCome++;
        return moved;
    }

    public int letters() {
        return air.size();
    }

    public int letter(int k, int what) {
        Letter found = air.look(k);
        if (found == null) {
            return NONE;
        }
        switch (what) {
            case 0:
                return found.kind();
            case 1:
                return found.owner();
            case 2:
                return found.number();
            default:
                return NONE;
        }
    }

    public boolean deliver(int k) {
        Letter found = air.look(k);
        if (found == null) {
            return false;
        }
        Vehicle owner = vehicleNumbered(found.owner());
        if (owner != null) {
            owner.take(found);
        }
        return air.remove(k);
    }

    public boolean lose(int k) {
        return air.remove(k);
    }

    public boolean twin(int k) {
        Letter found = air.look(k);
        return found != null && air.send(found);
    }

    public int vehicle(int v, int what) {
        Vehicle one = vehicleNumbered(v);
        if (one == null) {
            return NONE;
        }
        switch (what) {
            case 0:
                return one.placeAfter(one.made);
            case 1:
                return one.made;
            case 2:
                return one.allowed;
            case 3:
                return one.known;
            case 4:
                return one.granted;
            case 5:
                return one.moves.size();
            case 6:
                return one.latestTask;
            default:
                return NONE;
        }
    }

    public int move(int v, int i, int what) {
        Vehicle one = vehicleNumbered(v);
        if (one == null || i < 0 || i >= one.moves.size()) {
            return NONE;
        }
        Move found = one.moves.get(i);
        switch (what) {
            case 0:
                return found.place();
            case 1:
                return found.time();
            default:
                return NONE;
        }
    }

    public int taskOf(int task, int what) {
        if (task < 0 || task >= tasks.size()) {
            return NONE;
        }
        Task found = tasks.get(task);
        switch (what) {
            case 0:
                return found.carrier;
            case 1:
                return found.finishedIn;
            default:
                return NONE;
        }
    }

    public int count(int what) {
        if (!isOpen()) {
            return NONE;
        }
        switch (what) {
            case 0:
                return tasks.size() - planned;
            case 1:
                return tasks.size();
            case 2:
                return tickToCome;
            case 3:
                return planClock;
            case 4:
                return stations.length;
            default:
                return NONE;
        }
    }

    private boolean isOpen() {
        return planner != null;
    }

    private boolean isStation(int number) {
        return number >= 0 && number < stations.length;
    }

    private Vehicle vehicleNumbered(int v) {
        return v >= 0 && v < vehicles.length ? vehicles[v] : null;
    }

    private int makeMoves() {
        int moved = 0;
        for (int v = 0; v < vehicles.length; v++) {
            Vehicle one = vehicles[v];
            one.justMoved = one.canMove();
            if (one.justMoved) {
                moved++;
                one.made++;
                noteFinish(one);
            }
        }
        return moved;
    }

    private void noteFinish(Vehicle one) {
        if (one.made == one.finishAt && one.latestTask >= 0 && one.latestTask < tasks.size()) {
            tasks.get(one.latestTask).finishedIn = tickToCome;
        }
    }

    private void sendDones() {
        for (int v = 0; v < vehicles.length; v++) {
            Vehicle one = vehicles[v];
            if (one.justMoved || reportsNow(one)) {
                air.send(new Letter(DONE, one.number, one.made));
            }
        }
    }

    private boolean reportsNow(Vehicle one) {
        return tickToCome % REPORT_EVERY == one.number % REPORT_EVERY;
    }

    private void makePlans() {
        for (int n = planned; n < tasks.size(); n++) {
            Vehicle one = lowestIdle();
            if (planner == null || one == null || !planner.find(one, tasks.get(n), planClock)) {
                return;
            }
            planner.append(one, planClock);
            one.latestTask = n;
            tasks.get(n).carrier = one.number;
            planned = n + 1;
        }
    }

    private Vehicle lowestIdle() {
        for (int v = 0; v < vehicles.length; v++) {
            if (vehicles[v].isIdle()) {
                return vehicles[v];
            }
        }
        return null;
    }

    private void grantMoves() {
        for (int v = 0; v < vehicles.length; v++) {
            Vehicle one = vehicles[v];
            int before = one.granted;
            for (int i = before; i < one.moves.size() && isFree(one, one.moves.get(i)); i++) {
                one.granted = i + 1;
                planClock = Math.max(planClock, one.moves.get(i).time());
            }
            if (one.granted > before || reportsNow(one)) {
                air.send(new Letter(LIMIT, one.number, one.granted));
            }
        }
    }

    private boolean isFree(Vehicle one, Move next) {
        for (int v = 0; v < vehicles.length; v++) {
            if (vehicles[v] != one && vehicles[v].comesBefore(next)) {
                return false;
            }
        }
        return true;
    }

    private static int neighbour(int cell, int direction) {
        int x = cell % WIDTH;
        int y = cell / WIDTH;
        switch (direction) {
            case 0:
                return y > 0 ? cell - WIDTH : NONE;
            case 1:
                return x < WIDTH - 1 ? cell + 1 : NONE;
            case 2:
                return y < HEIGHT - 1 ? cell + WIDTH : NONE;
            case 3:
                return x > 0 ? cell - 1 : NONE;
            default:
                return NONE;
        }
    }

    /** One step of a vehicle: where it comes to, and when by its plan. */
    private record Move(int place, int time) {
    }

    private record Letter(int kind, int owner, int number) {
    }

    private static final class Task {
        private final int first;
        private final int second;
        private int carrier;
        private int finishedIn;

        Task(int first, int second) {
            this.first = first;
            this.second = second;
            carrier = NONE;
            finishedIn = NONE;
        }
    }

    private static final class Vehicle {
        private final int number;
        private final int parking;
        private final ArrayList<Move> moves;
        private int made;
        private int allowed;
        private int known;
        private int granted;
        private int latestTask;
        /** How many moves are made when the latest task is finished. */
        private int finishAt;
        private boolean justMoved;

        Vehicle(int number, int parking) {
            this.number = number;
            this.parking = parking;
            moves = new ArrayList<Move>();
            made = 0;
            allowed = 0;
            known = 0;
            granted = 0;
            latestTask = NONE;
            finishAt = NONE;
            justMoved = false;
        }

        boolean isIdle() {
            return known == moves.size();
        }

        boolean canMove() {
            return made < allowed && made < moves.size();
        }

        int placeAfter(int moveCount) {
            return moveCount >= 1 && moveCount <= moves.size() ? moves.get(moveCount - 1).place() : parking;
        }

        int movesUpTo(int time) {
            int counted = moves.size();
            while (counted > 0 && moves.get(counted - 1).time() > time) {
                counted--;
            }
            return counted;
        }

        void take(Letter letter) {
            if (letter.kind() == LIMIT) {
                allowed = Math.max(allowed, letter.number());
            } else {
                known = Math.max(known, letter.number());
            }
        }

        /** Whether it comes to the cell of another's move earlier, and is not known to have left it. */
        boolean comesBefore(Move next) {
            for (int j = Math.max(0, known - 1); j < moves.size(); j++) {
                Move own = moves.get(j);
                if (own.place() == next.place() && own.time() < next.time()) {
                    return true;
                }
            }
            return false;
        }
    }

    /** The letters on their way, in the order in which they were sent. */
    private static final class Air {
        private final ArrayList<Letter> flying;

        Air() {
            flying = new ArrayList<Letter>();
        }

        int size() {
            return flying.size();
        }

        Letter look(int k) {
            return k >= 0 && k < flying.size() ? flying.get(k) : null;
        }

        boolean send(Letter letter) {
            if (flying.size() >= MOST_LETTERS) {
                return false;
            }
            flying.add(letter);
            return true;
        }

        boolean remove(int k) {
            if (k < 0 || k >= flying.size()) {
                return false;
            }
            flying.remove(k);
            return true;
        }
    }

    /** A set of cells: a bit for each, the upper four rows of the map apart from the lower four. */
    private static final class Cells {
        private static final int HALF_CELLS = CELLS / 2;
        private static final int LAST_ROW = HALF_CELLS - WIDTH;
        private static final long HALF = 0xFFFFFFFFFFFFL;
        private static final long NOT_RIGHTMOST = 0x7FF7FF7FF7FFL;
        private static final long NOT_LEFTMOST = 0xFFEFFEFFEFFEL;

        private long upper;
        private long lower;

        void clear() {
            upper = 0;
            lower = 0;
        }

        void copy(Cells other) {
            upper = other.upper;
            lower = other.lower;
        }

        boolean has(int cell) {
            return ((cell < HALF_CELLS ? upper >>> cell : lower >>> (cell - HALF_CELLS)) & 1L) != 0;
        }

        void put(int cell) {
            if (cell < HALF_CELLS) {
                upper |= 1L << cell;
            } else {
                lower |= 1L << (cell - HALF_CELLS);
            }
        }

        void drop(int cell) {
            if (cell < HALF_CELLS) {
                upper &= ~(1L << cell);
            } else {
                lower &= ~(1L << (cell - HALF_CELLS));
            }
        }

        void join(Cells other) {
            upper |= other.upper;
            lower |= other.lower;
        }

        void keep(Cells other) {
            upper &= other.upper;
            lower &= other.lower;
        }

        boolean hasAll(Cells other) {
            return (other.upper & ~upper) == 0 && (other.lower & ~lower) == 0;
        }

        void becomeNeighboursOf(Cells other) {
            long up = other.upper;
            long low = other.lower;
            upper = neighboursInHalf(up) | (low << LAST_ROW & HALF);
            lower = neighboursInHalf(low) | up >>> LAST_ROW;
        }

        private static long neighboursInHalf(long half) {
            return (half << WIDTH & HALF) | half >>> WIDTH
                    | (half & NOT_RIGHTMOST) << 1 | (half & NOT_LEFTMOST) >>> 1;
        }
    }

    private static final class FloorMap {
        private final int[] kinds;

        FloorMap() {
            kinds = new int[CELLS];
        }

        boolean change(int cell, int kind) {
            if (cell < 0 || cell >= CELLS || kind < WALL || kind > PARKING) {
                return false;
            }
            kinds[cell] = kind;
            return true;
        }

        int[] cellsOf(int kind) {
            int[] found = new int[countOf(kind)];
            int next = 0;
            for (int cell = 0; cell < CELLS && next < found.length; cell++) {
                if (kinds[cell] == kind) {
                    found[next] = cell;
                    next++;
                }
            }
            return found;
        }

        void collect(int kind, Cells into) {
            for (int cell = 0; cell < CELLS; cell++) {
                if (kinds[cell] == kind) {
                    into.put(cell);
                }
            }
        }

        boolean isGood() {
            int parkings = countOf(PARKING);
            int stations = countOf(STATION);
            return parkings >= 1 && parkings <= MOST_PARKINGS
                    && stations >= FEWEST_STATIONS && stations <= MOST_STATIONS
                    && isJoined();
        }

        private int countOf(int kind) {
            int counted = 0;
            for (int cell = 0; cell < CELLS; cell++) {
                if (kinds[cell] == kind) {
                    counted++;
                }
            }
            return counted;
        }

        private boolean isJoined() {
            Cells floor = new Cells();
            collect(FLOOR, floor);
            Cells endpoints = new Cells();
            collect(STATION, endpoints);
            collect(PARKING, endpoints);
            for (int cell = 0; cell < CELLS; cell++) {
                if (endpoints.has(cell) && !reachesAll(cell, floor, endpoints)) {
                    return false;
                }
            }
            return true;
        }

        /** Other endpoints are come to but never gone on from: a way must not cross them. */
        private static boolean reachesAll(int start, Cells floor, Cells endpoints) {
            Cells crossed = new Cells();
            crossed.put(start);
            Cells reached = new Cells();
            for (int step = 0; step < CELLS; step++) {
                reached.becomeNeighboursOf(crossed);
                reached.put(start);
                if (reached.hasAll(endpoints)) {
                    return true;
                }
                reached.keep(floor);
                if (crossed.hasAll(reached)) {
                    return false;
                }
                crossed.join(reached);
            }
            return false;
        }
    }

    /**
     * Searches the plan of one vehicle for one task. Times count from the plan clock here. A plan has
     * three legs: to the first station, to the second one, and home.
     */
    private static final class Planner {
        private static final int LEGS = 3;
        private static final int HOME = 2;
        /** Room for what others do up to two times behind the longest plan, so that no edge is special. */
        private static final int TIMES = LONGEST_PLAN + 3;

        private final Cells common;
        private final Vehicle[] vehicles;
        private final Cells[] canEnter;
        private final Cells[] canBe;
        private final Cells[] reached;
        private final Cells aim;
        private final Cells scratch;
        private final int[] way;
        private int first;
        private int second;
        private int parking;
        private int end;
        private int finish;

        Planner(Cells common, Vehicle[] vehicles) {
            this.common = common;
            this.vehicles = vehicles;
            canEnter = new Cells[TIMES];
            canBe = new Cells[TIMES];
            for (int t = 0; t < TIMES; t++) {
                canEnter[t] = new Cells();
                canBe[t] = new Cells();
            }
            reached = new Cells[(LONGEST_PLAN + 1) * LEGS];
            for (int i = 0; i < reached.length; i++) {
                reached[i] = new Cells();
            }
            aim = new Cells();
            scratch = new Cells();
            way = new int[LONGEST_PLAN + 1];
        }

        boolean find(Vehicle own, Task given, int clock) {
            first = given.first;
            second = given.second;
            parking = own.parking;
            layOut(own, clock);
            end = spread();
            if (end == NONE) {
                return false;
            }
            prune();
            follow();
            return true;
        }

        /** Gives the found plan's moves to the vehicle. */
        void append(Vehicle own, int clock) {
            for (int t = 1; t <= end && t < way.length; t++) {
                if (way[t] != way[t - 1]) {
                    own.moves.add(new Move(way[t], clock + t));
                }
                if (t == finish) {
                    own.finishAt = own.moves.size();
                }
            }
        }

        private void layOut(Vehicle own, int clock) {
            for (int t = 0; t < TIMES; t++) {
                canBe[t].copy(common);
                canBe[t].put(parking);
                canEnter[t].copy(canBe[t]);
            }
            for (int v = 0; v < vehicles.length; v++) {
                if (vehicles[v] != own) {
                    keepClearOf(vehicles[v], clock);
                }
            }
            for (int t = 0; t < TIMES; t++) {
                canEnter[t].keep(canBe[t]);
            }
        }

        /** Behind its last move the other one is in its parking, which is no common cell. */
        private void keepClearOf(Vehicle other, int clock) {
            int next = other.movesUpTo(clock);
            int place = other.placeAfter(next);
            canEnter[1].drop(place);
            for (int t = 1; t < TIMES - 1 && next < other.moves.size(); t++) {
                if (other.moves.get(next).time() == clock + t) {
                    next++;
                    place = other.placeAfter(next);
                    canBe[t - 1].drop(place);
                    canBe[t].drop(place);
                }
                canEnter[t].drop(place);
                canEnter[t + 1].drop(place);
            }
        }

        private Cells at(int t, int leg) {
            return reached[t * LEGS + leg];
        }

        /** Marks where the vehicle can be at each time on each leg; answers the earliest end. */
        private int spread() {
            for (int leg = 0; leg < LEGS; leg++) {
                at(0, leg).clear();
            }
            at(0, 0).put(parking);
            for (int t = 1; t <= LONGEST_PLAN; t++) {
                for (int leg = 0; leg < LEGS; leg++) {
                    stepOn(t, leg);
                }
                for (int leg = 0; leg < HOME; leg++) {
                    changeLeg(t, leg);
                }
                if (at(t, HOME).has(parking)) {
                    return t;
                }
            }
            return NONE;
        }

        private void stepOn(int t, int leg) {
            Cells from = at(t - 1, leg);
            Cells to = at(t, leg);
            to.becomeNeighboursOf(from);
            to.keep(canEnter[t]);
            scratch.copy(from);
            scratch.keep(canBe[t]);
            to.join(scratch);
        }

        /** Legs are changed by rising numbers, so that one station can end two of them at once. */
        private void changeLeg(int t, int leg) {
            if (at(t, leg).has(goalOf(leg))) {
                at(t, leg).drop(goalOf(leg));
                at(t, leg + 1).put(goalOf(leg));
            }
        }

        private int goalOf(int leg) {
            return leg == 0 ? first : leg == 1 ? second : parking;
        }

        /** Leaves only those marks from which the earliest end can still be reached in time. */
        private void prune() {
            for (int leg = 0; leg < LEGS; leg++) {
                at(end, leg).clear();
            }
            at(end, HOME).put(parking);
            for (int t = end - 1; t >= 0; t--) {
                aim.clear();
                for (int leg = HOME; leg >= 0; leg--) {
                    boolean goesOn = aim.has(goalOf(leg));
                    aim.copy(at(t + 1, leg));
                    if (goesOn) {
                        aim.put(goalOf(leg));
                    }
                    keepThoseBefore(t, leg);
                }
            }
        }

        /** Where a mark is, nobody else is at its time or one earlier: it can be entered and stayed in. */
        private void keepThoseBefore(int t, int leg) {
            scratch.becomeNeighboursOf(aim);
            scratch.join(aim);
            at(t, leg).keep(scratch);
        }

        /** Among the pruned marks every step leads to the end, so the lowest move is always right. */
        private void follow() {
            way[0] = parking;
            finish = NONE;
            int leg = 0;
            for (int t = 1; t <= end && t < way.length; t++) {
                way[t] = lowestStep(t, way[t - 1], leg);
                int nextLeg = legAt(way[t], leg);
                if (nextLeg == HOME && leg != HOME) {
                    finish = t;
                }
                leg = nextLeg;
            }
        }

        private int lowestStep(int t, int place, int leg) {
            for (int direction = 0; direction < DIRECTIONS; direction++) {
                int next = neighbour(place, direction);
                if (next != NONE && at(t, legAt(next, leg)).has(next)) {
                    return next;
                }
            }
            return place;
        }

        private int legAt(int place, int leg) {
            int now = leg;
            if (now == 0 && place == first) {
                now = 1;
            }
            if (now == 1 && place == second) {
                now = HOME;
            }
            return now;
        }
    }
}
