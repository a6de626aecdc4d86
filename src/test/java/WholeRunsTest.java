import java.util.Random;

/**
 * What the document's first line promises in one breath, looked at after every call of long runs by asking
 * alone. (What only asks is not counted among the 512 calls here.)
 */
public final class WholeRunsTest extends Floors {
    private static final int RUNS = 180;
    private static final int CALLS = 512;
    private static final int CALLS_IN_BAD_AIR = 300;
    /** A letter that was lost is sent again within eight ticks, and plans are made within four. */
    private static final int LONGEST_REST = 16;
    private static final String[] WIDE = {"P.P.P.P.P.P.", "............", "............", "............",
        "............", "............", "............", "S.S.S.S.S.S."};
    private static final String[] NARROW = {"PPPPPP", "......", "S....S"};
    private static final String[][] MAPS = {SMALL, FORK, WIDE, NARROW, RING, LADDER, LATE, crossing(3),
        snake("P#P####S####")};

    private static int finishedTasks;

    private final Random dice;
    private final String[] rows;
    private final FleetFloor floor;
    private final int vehicles;
    private int[] parkings;
    private int[] before;
    private int calls;

    private WholeRunsTest(int seed) {
        dice = new Random(seed);
        rows = MAPS[seed % MAPS.length];
        floor = drawn(rows);
        vehicles = open(floor);
        before = new int[0];
    }

    public static void main(String[] args) {
        Check.sentence("A floor on which vehicles carry things between stations: a map that is looked over, "
                + "plans in time that never meet, cells granted in the order of the plans, "
                + "and letters over the air that may be lost, late or twice.");
        for (int seed = 0; seed < RUNS; seed++) {
            new WholeRunsTest(seed).run();
        }
        Check.due("many tasks were finished in " + RUNS + " runs", finishedTasks > 5 * RUNS, true);
        System.out.println("tasks finished " + finishedTasks);
        Check.end();
    }

    private void run() {
        findParkings();
        look("opened");
        calls = 1;
        for (String row : rows) {
            calls += row.length();
        }
        while (calls < CALLS_IN_BAD_AIR) {
            addTask();
            tickOnce();
            useAir();
        }
        dueNoMeeting();
        goOnInGoodAir();
        dueNoMeeting();
        noteFinished();
    }

    private void noteFinished() {
        for (int n = 0; n < floor.count(1); n++) {
            finishedTasks += floor.taskOf(n, 1) != NONE ? 1 : 0;
        }
    }

    private void goOnInGoodAir() {
        int rest = 0;
        while (calls < CALLS && isUnfinished()) {
            calls += floor.letters();
            deliverAll(floor);
            rest = tickOnce() > 0 ? 0 : rest + 1;
            Check.due("nobody moves, but there are tasks", rest > LONGEST_REST, false);
        }
    }

    private void findParkings() {
        parkings = new int[vehicles];
        for (int v = 0; v < vehicles; v++) {
            parkings[v] = floor.vehicle(v, 0);
            Check.due("a vehicle is in a parking", kindOf(parkings[v]), 'P');
        }
    }

    private char kindOf(int cell) {
        int x = cell % 12;
        int y = cell / 12;
        return y < rows.length && x < rows[y].length() ? rows[y].charAt(x) : '#';
    }

    private void addTask() {
        if (dice.nextInt(4) == 0) {
            int stations = floor.count(4);
            task(floor, dice.nextInt(stations), dice.nextInt(stations));
            calls++;
        }
    }

    private int tickOnce() {
        int made = allMade();
        int moved = tick(floor);
        calls++;
        Check.due("as many moved as moves were made", allMade() - made, moved);
        look("tick");
        dueGrants();
        return moved;
    }

    private int allMade() {
        int made = 0;
        for (int v = 0; v < vehicles; v++) {
            made += floor.vehicle(v, 1);
        }
        return made;
    }

    private void useAir() {
        for (int n = dice.nextInt(8); n > 0 && floor.letters() > 0; n--) {
            int k = dice.nextInt(floor.letters());
            int luck = dice.nextInt(8);
            if (luck < 4) {
                floor.deliver(k);
            } else if (luck < 6) {
                floor.lose(k);
            } else {
                floor.twin(k);
            }
            calls++;
            look("letter");
        }
    }

    private boolean isUnfinished() {
        for (int n = 0; n < floor.count(1); n++) {
            if (floor.taskOf(n, 1) == NONE) {
                return true;
            }
        }
        return false;
    }

    private void look(String behind) {
        for (int v = 0; v < vehicles; v++) {
            dueOrder(behind, v);
            duePlace(behind, v);
        }
        dueNothingLess(behind);
    }

    private void dueOrder(String behind, int v) {
        int made = floor.vehicle(v, 1);
        int allowed = floor.vehicle(v, 2);
        int granted = floor.vehicle(v, 4);
        Check.due(behind + ": KNOWN is not above what was made", floor.vehicle(v, 3) <= made, true);
        Check.due(behind + ": no more was made than might be", made <= allowed, true);
        Check.due(behind + ": no more may be made than was granted", allowed <= granted, true);
        Check.due(behind + ": no more was granted than there is", granted <= floor.vehicle(v, 5), true);
    }

    private void duePlace(String behind, int v) {
        int made = floor.vehicle(v, 1);
        int cell = floor.vehicle(v, 0);
        Check.due(behind + ": it is where its last move led", cell,
                made == 0 ? parkings[v] : floor.move(v, made - 1, 0));
        Check.due(behind + ": it is in no wall", kindOf(cell) != '#', true);
        Check.due(behind + ": it is in no parking but its own", kindOf(cell) != 'P' || cell == parkings[v], true);
        for (int u = 0; u < v; u++) {
            Check.due(behind + ": no other one is there", floor.vehicle(u, 0) != cell, true);
        }
    }

    /** The tick, the clock, the tasks, and what is told of each vehicle but its cell only grow. */
    private void dueNothingLess(String behind) {
        int[] now = new int[3 + 6 * vehicles];
        for (int what = 1; what <= 3; what++) {
            now[what - 1] = floor.count(what);
        }
        for (int v = 0; v < vehicles; v++) {
            for (int what = 1; what <= 6; what++) {
                now[3 + 6 * v + what - 1] = floor.vehicle(v, what);
            }
        }
        for (int i = 0; i < before.length; i++) {
            Check.due(behind + ": nothing goes back, " + i, now[i] >= before[i], true);
        }
        before = now;
    }

    private void dueGrants() {
        int clock = 0;
        for (int v = 0; v < vehicles; v++) {
            int granted = floor.vehicle(v, 4);
            for (int i = 0; i < granted; i++) {
                Check.due("a granted move waits for nobody", isHeldUp(v, i), false);
                clock = Math.max(clock, floor.move(v, i, 1));
            }
            if (granted < floor.vehicle(v, 5)) {
                Check.due("the first one that is not granted waits", isHeldUp(v, granted), true);
            }
        }
        Check.due("the clock is the greatest time granted", floor.count(3), clock);
    }

    /** Whether another one comes to the cell of this move earlier and is not known to have left. */
    private boolean isHeldUp(int v, int i) {
        for (int u = 0; u < vehicles; u++) {
            for (int j = 0; u != v && j < floor.vehicle(u, 5); j++) {
                if (floor.move(u, j, 0) == floor.move(v, i, 0) && floor.move(u, j, 1) < floor.move(v, i, 1)
                        && floor.vehicle(u, 3) <= j + 1) {
                    return true;
                }
            }
        }
        return false;
    }

    /** No plan comes to a cell where another one has its vehicle at that time or one earlier. */
    private void dueNoMeeting() {
        int last = 0;
        for (int v = 0; v < vehicles; v++) {
            last = Math.max(last, lastTime(floor, v));
        }
        int[][] places = new int[vehicles][];
        for (int v = 0; v < vehicles; v++) {
            places[v] = placesOf(v, last);
        }
        for (int v = 0; v < vehicles; v++) {
            for (int u = 0; u < vehicles; u++) {
                for (int t = 1; u != v && t <= last; t++) {
                    int cell = places[v][t];
                    boolean meets = cell != places[v][t - 1] && (places[u][t] == cell || places[u][t - 1] == cell);
                    Check.due("plans meet at time " + t, meets, false);
                }
            }
        }
    }

    private int[] placesOf(int v, int last) {
        int[] places = new int[last + 1];
        int next = 0;
        int place = parkings[v];
        for (int t = 0; t <= last; t++) {
            if (next < floor.vehicle(v, 5) && floor.move(v, next, 1) == t) {
                place = floor.move(v, next, 0);
                next++;
            }
            places[t] = place;
        }
        Check.due("each move has a time of its own", next, floor.vehicle(v, 5));
        Check.due("all plans end in the parking", place, parkings[v]);
        return places;
    }
}
