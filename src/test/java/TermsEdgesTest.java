/** The edges that the document's "What it is" and "Terms" name, each sentence with a test of its own. */
public final class TermsEdgesTest extends Floors {
    private static final int LIMIT = 0;
    private static final int DONE = 1;

    /** Where the two ways of crossing(3) meet. */
    private static final int MEETING = 39;

    private TermsEdgesTest() {
    }

    public static void main(String[] args) {
        calls();
        cells();
        kinds();
        sameEverywhere();
        neighboursEndAtTheSides();
        neighboursEndAboveAndBelow();
        neighboursAlways();
        numbers();
        vehiclesAtFirst();
        goodCounts();
        goodWays();
        goodWaysOfEachPair();
        planStart();
        planEnd();
        planEndLater();
        planSteps();
        planGoals();
        planEndsAtFirstReturn();
        keepsClearWhenItComes();
        keepsClearWhenOthersCome();
        keepsClearAtTheClock();
        keepsClearToTheEnd();
        keepsClearOfAll();
        earliest();
        lowestNeighbours();
        lowestAheadOfStay();
        movesWithoutStays();
        movesOfSeveralPlans();
        planClock();
        grantedInOrder();
        grantedBehindOthers();
        grantedBehindMoveZero();
        lettersInOrder();
        lettersFull();
        limitComes();
        doneComes();
        tickNumbers();
        tickMoves();
        tickDones();
        tickPlansEveryFourth();
        tickPlansAsLongAs();
        tickWithoutPlan();
        idle();
        tickLimits();
        tickPlansAheadOfGrants();
        finished();
        Check.end();
    }

    private static void calls() {
        Check.sentence("An object is used for at most 512 calls after it has been made");
        FleetFloor floor = inEightCalls();
        for (int call = 9; call <= 504; call++) {
            Check.due("call " + call + ", tick", tick(floor), 0);
        }
        Check.due("call 505, the air is full", floor.lose(59), true);
        Check.due("call 506", floor.lose(58), true);
        Check.due("call 507", task(floor, 0, 1), 0);
        Check.due("call 508, tick 496", tick(floor), 0);
        Check.due("call 509, LIMIT", floor.deliver(59), true);
        Check.due("call 510, tick 497", tick(floor), 1);
        Check.due("call 511, tick 498", tick(floor), 1);
        Check.due("call 512", floor.vehicle(0, 0), 24);

        FleetFloor ticking = inEightCalls();
        for (int call = 9; call <= 511; call++) {
            Check.due("call " + call + ", tick", tick(ticking), 0);
        }
        Check.due("call 512, the tick to come", ticking.count(2), 503);
    }

    private static FleetFloor inEightCalls() {
        FleetFloor floor = new FleetFloor();
        int[] cells = {0, 2, 12, 13, 14, 24, 26};
        int[] kinds = {3, 3, 1, 1, 1, 2, 2};
        for (int i = 0; i < 7; i++) {
            floor.cell(cells[i], kinds[i]);
        }
        Check.due("call 8, open", open(floor), 2);
        return floor;
    }

    private static void cells() {
        Check.sentence("THE MAP has 12 * 8 CELLS, cell 12 y + x");
        FleetFloor floor = drawn("P.S", "S..");
        Check.due("the first cell", floor.cell(0, FleetFloor.WALL), true);
        Check.due("without its parking the map is not good", open(floor), ARGUMENT);
        Check.due("one below the first", floor.cell(-1, FleetFloor.PARKING), false);
        Check.due("one above the last", floor.cell(96, FleetFloor.PARKING), false);
        Check.due("neither gave a parking", open(floor), ARGUMENT);
        Check.due("the last cell", floor.cell(95, FleetFloor.PARKING), true);
        Check.due("it lies apart", open(floor), ARGUMENT);
        for (int cell = 14; cell <= 94; cell += cell < 86 ? 12 : 1) {
            Check.due("the way there", floor.cell(cell, FleetFloor.FLOOR), true);
        }
        Check.due("from the first row to the last cell", open(floor), 1);
        Check.due("the vehicle in the last cell", floor.vehicle(0, 0), 95);
        task(floor, 1, 1);
        tick(floor);
        Check.due("its first move", floor.move(0, 0, 0), 94);
        Check.due("its last move", lastCell(floor, 0), 95);
    }

    private static void kinds() {
        Check.sentence("each is WALL (at first), FLOOR, STATION or PARKING");
        FleetFloor floor = new FleetFloor();
        Check.due("the last kind", floor.cell(0, 3), true);
        Check.due("one above the last kind", floor.cell(0, 4), false);
        Check.due("one below the first kind", floor.cell(0, -1), false);
        Check.due("a station", floor.cell(2, 2), true);
        Check.due("another one", floor.cell(24, 2), true);
        Check.due("walls at first", open(floor), ARGUMENT);
        Check.due("floor in between", floor.cell(1, 1) && floor.cell(12, 1), true);
        Check.due("the two stations are still parted", open(floor), ARGUMENT);
        Check.due("floor", floor.cell(13, 1), true);
        Check.due("the map is good", open(floor), 1);

        FleetFloor walled = drawn("P.S", ".#.", "...", "S..");
        Check.due("the first kind", walled.cell(1, 0), true);
        Check.due("the way round", open(walled), 1);
        task(walled, 0, 0);
        tick(walled);
        dueMoves("not over a wall", walled, 0, 12, 24, 25, 26, 14, 2, 14, 26, 25, 24, 12, 0);
    }

    private static void sameEverywhere() {
        Check.sentence("THE MAP has 12 * 8 CELLS");
        dueEverywhere("a corridor, to the left", SMALL, 0);
        dueEverywhere("a corridor, to the right", SMALL, 1);
        dueEverywhere("a fork, to the upper right", FORK, 0);
        dueEverywhere("a fork, to the lower right", FORK, 1);
        dueEverywhere("a fork to the left", new String[] {"S.P", "#.#", "S.P"}, 0);
    }

    /** Two vehicles that are in each other's way have the same plans wherever they are on the map. */
    private static void dueEverywhere(String what, String[] rows, int station) {
        String corner = plansOf(rows, 0, 0, station);
        Check.due(what + ", each has a plan", corner.startsWith("/") || corner.contains("//"), false);
        for (int dy = 0; dy <= 5; dy++) {
            for (int dx = 0; dx <= 9; dx++) {
                Check.due(what + ", " + dx + " right, " + dy + " down", plansOf(rows, dx, dy, station), corner);
            }
        }
    }

    private static String plansOf(String[] rows, int dx, int dy, int station) {
        FleetFloor floor = new FleetFloor();
        for (int cell = 0; cell < 36; cell++) {
            int x = cell % 12;
            if (x < 3) {
                floor.cell(cell + 12 * dy + dx, "#.SP".indexOf(rows[cell / 12].charAt(x)));
            }
        }
        open(floor);
        task(floor, station, station);
        task(floor, station, station);
        tick(floor);
        StringBuilder text = new StringBuilder();
        for (int v = 0; v < 2; v++) {
            for (int i = 0; i < floor.vehicle(v, 5); i++) {
                text.append(floor.move(v, i, 0) - 12 * dy - dx).append('@').append(floor.move(v, i, 1)).append(' ');
            }
            text.append('/');
        }
        return text.toString();
    }

    private static void neighboursEndAtTheSides() {
        Check.sentence("NEIGHBOURS: 0 above (y - 1), 1 right, 2 below, 3 left");
        Check.due("no way from the end of a row to the next one",
                open(drawn("#########S..", "S#########P#")), ARGUMENT);
        FleetFloor floor = opened("...........S", "PS");
        task(floor, 0, 0);
        tick(floor);
        dueMoves("the long way to the right end", floor, 0,
                0, 1, 2, 3, 4, 5, 6, 7, 8, 9, 10, 11, 10, 9, 8, 7, 6, 5, 4, 3, 2, 1, 13, 12);
        FleetFloor back = opened("##########SP", "............", "S...........");
        task(back, 1, 1);
        tick(back);
        Check.due("the long way to the left end", lastTime(back, 0), 26);
    }

    private static void neighboursEndAboveAndBelow() {
        Check.sentence("NEIGHBOURS: 0 above (y - 1)");
        Check.due("no way from the first row to the last one",
                open(drawn("P.S", "###", "###", "###", "###", "###", "###", "..S")), ARGUMENT);
        FleetFloor floor = opened("P.S", "#.#", "#.#", "#.#", "#.#", "#.#", "#.#", "S.#");
        task(floor, 1, 1);
        tick(floor);
        dueMoves("the long way down", floor, 0,
                1, 13, 25, 37, 49, 61, 73, 85, 84, 85, 73, 61, 49, 37, 25, 13, 1, 0);
        FleetFloor up = opened("S.#", "#.#", "#.#", "#.#", "#.#", "#.#", "#.#", "P.S");
        task(up, 0, 0);
        tick(up);
        Check.due("the long way up", lastTime(up, 0), 18);
    }

    private static void neighboursAlways() {
        Check.sentence("at each next time where it was (STAY) or at a neighbour");
        FleetFloor ring = withTasks(RING, RING_TASKS);
        Check.due("vehicle 0 on the ring", goesByNeighbours(ring, 0), true);
        Check.due("vehicle 1 on the ring", goesByNeighbours(ring, 1), true);
        Check.due("its way has one STAY", lastTime(ring, 1) - ring.vehicle(1, 5), 1);
        FleetFloor ladder = withTasks(LADDER, LADDER_TASKS);
        for (int v = 0; v < 4; v++) {
            Check.due("vehicle " + v + " on the ladder", goesByNeighbours(ladder, v), true);
        }
        Check.due("the last way", lastTime(ladder, 3), 58);
    }

    /** An opened floor after the tick in which its vehicles got these tasks. */
    private static FleetFloor withTasks(String[] rows, int[][] tasks) {
        FleetFloor floor = opened(rows);
        for (int[] stations : tasks) {
            task(floor, stations[0], stations[1]);
        }
        tick(floor);
        return floor;
    }

    private static void numbers() {
        Check.sentence("Stations, and parkings, are numbered by rising cells");
        String[] rows = {"P.P.P.P.P.P.", "............", "SSSSSSSSSSSS", "############", "############",
            "############", "############", "############"};
        FleetFloor floor = drawn(rows);
        for (int x = 0; x < 4; x++) {
            floor.cell(2 * x + 1, FleetFloor.STATION);
        }
        Check.due("six parkings", open(floor), 6);
        for (int v = 0; v < 6; v++) {
            Check.due("parking " + v, floor.vehicle(v, 0), 2 * v);
        }
        int[] asked = {0, 3, 4, 15};
        int[] cells = {1, 7, 24, 35};
        for (int i = 0; i < 4; i++) {
            Check.due("a task", task(floor, asked[i], asked[i]), i);
        }
        tick(floor);
        for (int v = 0; v < 4; v++) {
            Check.due("station " + asked[v], comesTo(floor, v, cells[v]), true);
        }
    }

    private static void vehiclesAtFirst() {
        Check.sentence("each parking has a VEHICLE of its number, at first in it");
        FleetFloor floor = opened("P....P", "S....S", "P....P");
        int[] cells = {0, 5, 24, 29};
        for (int v = 0; v < 4; v++) {
            dueVehicle("vehicle " + v, floor, v, cells[v], 0, 0, 0, 0, 0, NONE);
        }
        dueVehicle("there is no fifth", floor, 4, NONE, NONE, NONE, NONE, NONE, NONE, NONE);
    }

    private static void goodCounts() {
        Check.sentence("there are 1 .. 6 parkings and 2 .. 16 stations");
        for (int parkings = 0; parkings <= 8; parkings++) {
            for (int stations = 0; stations <= 18; stations++) {
                boolean good = parkings >= 1 && parkings <= 6 && stations >= 2 && stations <= 16;
                Check.due(parkings + " parkings and " + stations + " stations",
                        open(withEndpoints(parkings, stations)), good ? parkings : ARGUMENT);
            }
        }
    }

    /** Endpoints in every second cell of five rows: none shuts another one in. */
    private static FleetFloor withEndpoints(int parkings, int stations) {
        FleetFloor floor = new FleetFloor();
        int placed = 0;
        for (int cell = 0; cell < 96; cell++) {
            int kind = FleetFloor.FLOOR;
            if (cell % 12 % 2 == 0 && cell / 12 % 2 == 0) {
                kind = placed < parkings ? FleetFloor.PARKING
                        : placed < parkings + stations ? FleetFloor.STATION : FleetFloor.FLOOR;
                placed++;
            }
            floor.cell(cell, kind);
        }
        return floor;
    }

    private static void goodWays() {
        Check.sentence("between any two endpoints goes a way from neighbour to neighbour, no wall, "
                + "that crosses no other endpoint");
        Check.due("neighbours have a way", open(drawn("SPS", ".#.", "...")), 1);
        Check.due("a way of one floor cell", open(drawn("P.S", "#S#")), 1);
        Check.due("a wall in the only way", open(drawn("P.#S", "#S##")), ARGUMENT);
        Check.due("a station in the only way", open(drawn("P.S.S")), ARGUMENT);
        Check.due("a parking in the only way", open(drawn("S.P.S")), ARGUMENT);
        Check.due("corner to corner is no way", open(drawn("P.#", "S.#", "##S")), ARGUMENT);
        Check.due("the longest way", open(drawn("P...........", "###########.", "............", ".###########",
                "............", "###########.", "............", "S##########S")), 1);
        Check.due("the longest way with a wall in it", open(drawn("P...........", "###########.", "............",
                ".###########", ".....#......", "###########.", "............", "S##########S")), ARGUMENT);
    }

    private static void goodWaysOfEachPair() {
        Check.sentence("between any two endpoints goes a way");
        String[] pairs = {"PP", "SS", "PS", "SP"};
        for (String pair : pairs) {
            char upper = pair.charAt(0);
            char lower = pair.charAt(1);
            char beside = pair.equals("SS") ? 'P' : 'S';
            FleetFloor floor = drawn("##...", "#" + upper + beside + "#.", "#S" + lower + "#.", "#.##.", "#....");
            Check.due("only one pair has no way, " + pair, open(floor), ARGUMENT);
            floor.cell(1, FleetFloor.FLOOR);
            Check.due("half a way, " + pair, open(floor), ARGUMENT);
            floor.cell(38, FleetFloor.FLOOR);
            Check.due("with a way, " + pair, open(floor) > 0, true);
        }
    }

    private static void planStart() {
        Check.sentence("where it is at times s (its parking), s + 1, ..");
        FleetFloor floor = opened("P.S", "..S");
        task(floor, 0, 0);
        tick(floor);
        dueTimes("from clock 0 on", floor, 0, 1, 2, 3, 4);
        Check.due("the first one from its parking", floor.move(0, 0, 0), 1);
        task(floor, 0, 0);
        run(floor, 8);
        Check.due("the clock was 4", floor.move(0, 4, 1), 5);
        Check.due("again from its parking", floor.move(0, 4, 0), 1);
    }

    private static void planEnd() {
        Check.sentence("up to its end, not above s + 150");
        FleetFloor just = opened(snake("P#P####S####"));
        task(just, 0, 1);
        task(just, 0, 1);
        tick(just);
        Check.due("a plan that ends at s + 150", lastTime(just, 1), 150);
        Check.due("none is pending", just.count(0), 0);

        FleetFloor over = opened(snake("P##P###S####"));
        task(over, 0, 1);
        task(over, 0, 1);
        tick(over);
        Check.due("one that would end at s + 151", over.vehicle(1, 5), 0);
        Check.due("its task is pending", over.count(0), 1);
    }

    private static void planEndLater() {
        Check.sentence("not above s + 150");
        FleetFloor just = opened(snake("P#P####S####"));
        afterOneTask(just);
        Check.due("a plan that ends at s + 150", lastTime(just, 1), 18 + 150);
        FleetFloor over = opened(snake("P##P###S####"));
        afterOneTask(over);
        Check.due("one that would end at s + 151", over.vehicle(1, 5), 0);
        run(over, 4);
        Check.due("the clock went on, so there is a plan", over.vehicle(1, 5), 82);
        Check.due("it begins there", over.move(1, 0, 1), 101);
    }

    /** Vehicle 0 has done a task, so that the clock is 18 when both vehicles get theirs. */
    private static void afterOneTask(FleetFloor floor) {
        task(floor, 0, 0);
        run(floor, 20);
        Check.due("the clock", floor.count(3), 18);
        task(floor, 0, 1);
        task(floor, 0, 1);
        run(floor, 1);
        Check.due("vehicle 0 has a plan", lastTime(floor, 0), 100);
    }

    private static void planSteps() {
        Check.sentence("at each next time where it was (STAY) or at a neighbour, no wall, no other vehicle's parking");
        FleetFloor floor = opened("P.P.S", ".....", "....S");
        task(floor, 0, 0);
        tick(floor);
        dueMoves("round another one's parking", floor, 0, 1, 13, 14, 15, 3, 4, 16, 15, 14, 13, 1, 0);
        FleetFloor own = opened("...", "S.P", "..S");
        task(own, 0, 1);
        tick(own);
        dueMoves("over its own parking", own, 0, 13, 12, 13, 14, 26, 14);
        FleetFloor station = opened("PSS", "...");
        task(station, 1, 1);
        tick(station);
        dueMoves("over a station", station, 0, 1, 2, 1, 0);
        FleetFloor stay = opened(crossing(3));
        task(stay, 1, 1);
        task(stay, 0, 0);
        tick(stay);
        Check.due("with a STAY there is one move less than times", stay.vehicle(1, 5), lastTime(stay, 1) - 1);
    }

    private static void planGoals() {
        Check.sentence("it comes to the first station, then (or at once, if they were the same) to the second one, "
                + "then to its parking");
        FleetFloor same = opened("P.S.S", ".....");
        task(same, 0, 0);
        tick(same);
        dueMoves("both are one", same, 0, 1, 2, 1, 0);
        FleetFloor order = opened("P.S.S", ".....");
        task(order, 1, 0);
        tick(order);
        dueMoves("the second one lies on the way to the first", order, 0, 1, 2, 3, 4, 3, 2, 1, 0);
        FleetFloor other = opened("P.S.S", ".....");
        task(other, 0, 1);
        tick(other);
        dueMoves("the first one lies on the way to the second", other, 0, 1, 2, 3, 4, 3, 2, 1, 0);
        FleetFloor apart = opened(".S.", "P..", ".S.");
        task(apart, 1, 0);
        tick(apart);
        dueMoves("first the first one, then the second", apart, 0, 13, 25, 13, 1, 13, 12);
    }

    private static void planEndsAtFirstReturn() {
        Check.sentence("and ends there, the first time it is there behind that");
        FleetFloor floor = opened("S.P.S", "#...#");
        task(floor, 0, 1);
        tick(floor);
        dueMoves("its parking between the stations is no end", floor, 0, 1, 0, 1, 2, 3, 4, 3, 2);
        task(floor, 1, 1);
        run(floor, 16);
        Check.due("two plans", floor.vehicle(0, 5), 12);
        dueTimes("the second one begins behind the first", floor, 0, 1, 2, 3, 4, 5, 6, 7, 8, 9, 10, 11, 12);
    }

    private static void keepsClearWhenItComes() {
        Check.sentence("if it comes to a cell at a time (was not there one time earlier), "
                + "no other plan has its vehicle there at that time or one earlier");
        Check.due("two times behind the other one", crossingTime(2), 4);
        Check.due("one time behind: one later", crossingTime(3), 5);
        Check.due("at the same time: two later", crossingTime(4), 6);
    }

    private static void keepsClearWhenOthersCome() {
        Check.sentence("if another plan comes to a cell at a time, this one is not there at that time or one earlier");
        Check.due("two times ahead of the other one", crossingTime(6), 4);
        Check.due("one time ahead: behind it", crossingTime(5), 7);
        FleetFloor floor = opened(FORK);
        task(floor, 0, 0);
        task(floor, 0, 0);
        tick(floor);
        dueTimes("between two comings there is no room", floor, 1, 1, 2, 3, 4, 5, 6, 7, 8, 9, 10);
        Check.due("so the fourth move is no further", floor.move(1, 3, 0), 13);
        Check.due("and the fifth goes in", floor.move(1, 4, 0), 1);
    }

    /** When vehicle 1 comes to the cell that vehicle 0 comes to at time x. */
    private static int crossingTime(int x) {
        FleetFloor floor = opened(crossing(x));
        task(floor, 1, 1);
        task(floor, 0, 0);
        tick(floor);
        Check.due("vehicle 0 is there at its time", comingTime(floor, 0, 36 + x), x);
        int time = comingTime(floor, 1, 36 + x);
        Check.due("nothing else makes vehicle 1 late", lastTime(floor, 1), time + 10);
        Check.due("they keep clear", meet(floor, 2), false);
        return time;
    }

    /** The clock stands at 2 when vehicle 2 gets its plan: then vehicle 0 is above it and goes on at 3. */
    private static void keepsClearAtTheClock() {
        Check.sentence("no other plan has its vehicle there at that time or one earlier");
        FleetFloor floor = opened("########S###", "S..........P", "########PP##");
        task(floor, 1, 1);
        task(floor, 0, 0);
        tick(floor);
        Check.due("the clock", floor.count(3), 2);
        Check.due("where vehicle 0 is then", floor.move(0, 1, 0), 21);
        Check.due("where it goes on", floor.move(0, 2, 0), 20);
        Check.due("when it goes on", floor.move(0, 2, 1), 3);
        task(floor, 0, 0);
        for (int t = 1; t <= 4; t++) {
            tick(floor);
        }
        Check.due("vehicle 2 goes there", floor.move(2, 0, 0), 21);
        Check.due("not at 3, for vehicle 0 was there one time earlier", floor.move(2, 0, 1), 4);
    }

    private static void keepsClearToTheEnd() {
        Check.sentence("up to its end, not above s + 150");
        FleetFloor floor = withTasks(LATE, LATE_TASKS);
        Check.due("vehicle 3 is home at the last time", lastTime(floor, 3), 150);
        Check.due("one time earlier it comes to the cell above", floor.move(3, 146, 0), 68);
        Check.due("so there is no plan for vehicle 4", floor.vehicle(4, 5), 0);
        Check.due("two tasks are pending", floor.count(0), 2);
        Check.due("nobody meets", meet(floor, 6), false);
    }

    private static void keepsClearOfAll() {
        Check.sentence("It KEEPS CLEAR of all plans that were made before");
        FleetFloor floor = opened("PPPPPP", "......", "S....S");
        for (int n = 0; n < 6; n++) {
            task(floor, n % 2, (n + 1) % 2);
        }
        tick(floor);
        Check.due("six plans", floor.count(0), 0);
        Check.due("of one tick", meet(floor, 6), false);

        FleetFloor later = opened(crossing(3));
        task(later, 1, 1);
        tick(later);
        task(later, 0, 0);
        for (int t = 1; t <= 4; t++) {
            tick(later);
        }
        Check.due("the clock is where the first plan ends", later.move(1, 0, 1), 23);
        Check.due("so nothing holds the second one up", lastTime(later, 1), 36);
    }

    private static void earliest() {
        Check.sentence("Of all these plans that which ends earliest");
        FleetFloor floor = opened("...", "P.S", "..S");
        task(floor, 0, 0);
        tick(floor);
        dueMoves("though there are lower moves", floor, 0, 13, 14, 13, 12);
        FleetFloor round = opened("P.....S", ".####..", "......S");
        task(round, 0, 1);
        tick(round);
        Check.due("the shortest round", lastTime(round, 0), 6 + 2 + 8);
    }

    private static void lowestNeighbours() {
        Check.sentence("of several the one whose moves (0 to 3 the neighbours, 4 STAY), compared from the first one on, "
                + "are lowest where they first differ");
        dueLowest("above ahead of right, below ahead of left", 0, 0, 1, 13, 12, ".SS", "P..");
        dueLowest("right ahead of below, above ahead of left", 0, 1, 13, 1, 0, "P..", ".S.", "..S");
        dueLowest("below ahead of left, above ahead of right", 0, 13, 12, 0, 1, ".P.", "S..", "..S");
        dueLowest("above ahead of left, right ahead of below", 0, 1, 0, 1, 13, "S..", ".P.", "..S");
        FleetFloor floor = opened("S....", ".....", "....P", "....S");
        task(floor, 0, 0);
        tick(floor);
        dueMoves("from the first one on", floor, 0, 16, 4, 3, 2, 1, 0, 1, 2, 3, 4, 16, 28);
    }

    private static void dueLowest(String what, int station, int a, int b, int c, int d, String... rows) {
        FleetFloor floor = opened(rows);
        task(floor, station, station);
        tick(floor);
        dueMoves(what, floor, 0, a, b, c, d);
    }

    private static void lowestAheadOfStay() {
        Check.sentence("0 to 3 the neighbours, 4 STAY");
        dueSecond("above: the STAY comes as late as can be", crossing(3),
                "75@1 63@2 51@3 39@5 27@6 15@7 3@8 15@9 27@10 39@11 51@12 63@13 75@14 87@15 ");
        dueSecond("below", crossing(4),
                "76@1 64@2 52@3 64@4 52@5 40@6 28@7 16@8 4@9 16@10 28@11 40@12 52@13 64@14 76@15 88@16 ");
        dueSecond("left", new String[] {"#S", "#.", "#.", "P..........S", ".P"},
                "48@1 49@2 37@3 25@4 13@5 1@6 13@7 25@8 37@9 49@10 ");
        dueSecond("right", new String[] {"#S", "#.", "#.", "P..........S", ".P."},
                "50@1 49@2 37@3 25@4 13@5 1@6 13@7 25@8 37@9 49@10 ");
        dueSecond("with nothing but STAY", new String[] {"#S", "#.", "#.", "P..........S", "#P"},
                "37@3 25@4 13@5 1@6 13@7 25@8 37@9 49@10 ");
    }

    /** The moves of vehicle 1, which is held up by vehicle 0. */
    private static void dueSecond(String what, String[] rows, String moves) {
        FleetFloor floor = opened(rows);
        task(floor, 1, 1);
        task(floor, 0, 0);
        tick(floor);
        Check.due(what, movesOf(floor, 1), moves);
    }

    private static String movesOf(FleetFloor floor, int v) {
        StringBuilder text = new StringBuilder();
        for (int i = 0; i < floor.vehicle(v, 5); i++) {
            text.append(floor.move(v, i, 0)).append('@').append(floor.move(v, i, 1)).append(' ');
        }
        return text.toString();
    }

    private static void movesWithoutStays() {
        Check.sentence("A vehicle's MOVES are those of its plans, one behind the other, but no STAYs");
        FleetFloor floor = opened(crossing(3));
        task(floor, 1, 1);
        task(floor, 0, 0);
        tick(floor);
        Check.due("fourteen moves in fifteen times", floor.vehicle(1, 5), 14);
        dueTimes("a STAY at time 4", floor, 1, 1, 2, 3, 5, 6);
        deliverAll(floor);
        for (int t = 1; t <= 3; t++) {
            Check.due("both move", tick(floor), 2);
        }
        Check.due("vehicle 0 goes on", tick(floor), 1);
        run(floor, 1);
        Check.due("a STAY is nothing to be made", floor.vehicle(1, 4), 14);
    }

    private static void movesOfSeveralPlans() {
        Check.sentence("one behind the other, but no STAYs; move 0 is the first");
        FleetFloor floor = opened("P.S", "S..");
        Check.due("none without a plan", floor.vehicle(0, 5), 0);
        Check.due("not even move 0", floor.move(0, 0, 0), NONE);
        task(floor, 0, 0);
        task(floor, 1, 1);
        tick(floor);
        dueMoves("the first plan's", floor, 0, 1, 2, 1, 0);
        run(floor, 8);
        dueMoves("the second plan's behind them", floor, 0, 1, 2, 1, 0, 12, 0);
        dueTimes("their times", floor, 0, 1, 2, 3, 4, 5, 6);
    }

    private static void planClock() {
        Check.sentence("THE PLAN CLOCK is the greatest time of a move that was granted so far (0 at first)");
        FleetFloor floor = opened(crossing(3));
        Check.due("at first", floor.count(3), 0);
        tick(floor);
        Check.due("without moves", floor.count(3), 0);
        task(floor, 1, 1);
        task(floor, 0, 0);
        for (int t = 1; t <= 4; t++) {
            Check.due("no plans yet", floor.count(3), 0);
            tick(floor);
        }
        Check.due("vehicle 0 is granted up to time 18, vehicle 1 up to time 3", floor.count(3), 18);
        Check.due("a plan's end is no grant", lastTime(floor, 0), 22);
        deliverLimits(floor);
        for (int t = 5; t <= 8; t++) {
            tick(floor);
        }
        deliver(floor, DONE, 0, 4);
        tick(floor);
        Check.due("vehicle 1 is granted up to time 15", floor.vehicle(1, 4), 14);
        Check.due("that is less", floor.count(3), 18);
    }

    private static FleetFloor bothUnderWay() {
        FleetFloor floor = opened(crossing(3));
        task(floor, 1, 1);
        task(floor, 0, 0);
        tick(floor);
        Check.due("LIMIT of vehicle 0", deliver(floor, LIMIT, 0, 18), true);
        Check.due("LIMIT of vehicle 1", deliver(floor, LIMIT, 1, 3), true);
        for (int t = 1; t <= 4; t++) {
            tick(floor);
        }
        Check.due("vehicle 0 is past the crossing", floor.vehicle(0, 0), MEETING + 1);
        Check.due("vehicle 1 stands before it", floor.vehicle(1, 0), MEETING + 12);
        return floor;
    }

    private static void grantedInOrder() {
        Check.sentence("Move i of a vehicle is GRANTED if those before it are");
        FleetFloor floor = opened(crossing(3));
        task(floor, 1, 1);
        task(floor, 0, 0);
        tick(floor);
        Check.due("move 18 of vehicle 0 is to the crossing", floor.move(0, 18, 0), MEETING);
        Check.due("it is not granted, nor are those behind it", floor.vehicle(0, 4), 18);
        Check.due("move 3 of vehicle 1 is to the crossing", floor.move(1, 3, 0), MEETING);
        Check.due("so it has three", floor.vehicle(1, 4), 3);
        FleetFloor alone = opened(crossing(3));
        task(alone, 1, 1);
        tick(alone);
        Check.due("its own moves to a cell do not hold it up", alone.vehicle(0, 4), 22);
    }

    private static void grantedBehindOthers() {
        Check.sentence("for each move j of another vehicle to the same cell with a lower time KNOWN of that one "
                + "is above j + 1 (so it has left)");
        FleetFloor floor = bothUnderWay();
        Check.due("vehicle 0 came there by move 2", floor.move(0, 2, 0), MEETING);
        deliver(floor, DONE, 0, 2);
        tick(floor);
        Check.due("KNOWN 2", floor.vehicle(1, 4), 3);
        deliver(floor, DONE, 0, 3);
        tick(floor);
        Check.due("KNOWN 3: it came", floor.vehicle(1, 4), 3);
        deliver(floor, DONE, 0, 4);
        Check.due("granted in a tick only", floor.vehicle(1, 4), 3);
        tick(floor);
        Check.due("KNOWN 4: it left, and it comes back later", floor.vehicle(1, 4), 14);

        deliver(floor, LIMIT, 1, 14);
        for (int t = 0; t < 11; t++) {
            tick(floor);
        }
        Check.due("vehicle 1 made all", floor.vehicle(1, 1), 14);
        deliver(floor, DONE, 1, 4);
        tick(floor);
        Check.due("it was there twice: KNOWN 4", floor.vehicle(0, 4), 18);
        deliver(floor, DONE, 1, 5);
        tick(floor);
        Check.due("KNOWN 5: it left once", floor.vehicle(0, 4), 18);
        deliver(floor, DONE, 1, 10);
        tick(floor);
        Check.due("KNOWN 10: it came again", floor.vehicle(0, 4), 18);
        deliver(floor, DONE, 1, 11);
        tick(floor);
        Check.due("KNOWN 11: it left", floor.vehicle(0, 4), 22);
        Check.due("the clock", floor.count(3), 22);
    }

    private static void grantedBehindMoveZero() {
        Check.sentence("KNOWN of that one is above j + 1 (so it has left)");
        FleetFloor floor = opened("#S", "#.", "#.", "P..........S", "#P");
        task(floor, 1, 1);
        task(floor, 0, 0);
        tick(floor);
        Check.due("move 0 of both is to the same cell", floor.move(1, 0, 0), floor.move(0, 0, 0));
        Check.due("KNOWN 0: vehicle 1 is granted nothing", floor.vehicle(1, 4), 0);
        deliverLimits(floor);
        tick(floor);
        tick(floor);
        deliver(floor, DONE, 0, 1);
        tick(floor);
        Check.due("KNOWN 1: nor then", floor.vehicle(1, 4), 0);
        deliver(floor, DONE, 0, 2);
        tick(floor);
        Check.due("KNOWN 2: all", floor.vehicle(1, 4), 8);
    }

    private static void lettersInOrder() {
        Check.sentence("LETTERS lie in the air in the order in which they were sent");
        FleetFloor floor = opened(crossing(3));
        Check.due("none at first", floor.letters(), 0);
        task(floor, 1, 1);
        task(floor, 0, 0);
        tick(floor);
        tick(floor);
        dueLetter("tick 0", floor, 0, DONE, 0, 0);
        dueLetter("then its LIMITs", floor, 1, LIMIT, 0, 18);
        dueLetter("by rising vehicles", floor, 2, LIMIT, 1, 3);
        dueLetter("tick 1", floor, 3, DONE, 1, 0);
        dueLetter("and its LIMIT", floor, 4, LIMIT, 1, 3);
        Check.due("that is all", floor.letters(), 5);
        floor.lose(2);
        dueLetter("those behind a lost one move up", floor, 2, DONE, 1, 0);
        floor.twin(0);
        dueLetter("a twin is the last", floor, 4, DONE, 0, 0);
        tick(floor);
        Check.due("a tick without letters", floor.letters(), 5);
    }

    private static void lettersFull() {
        Check.sentence("at most 60 (one more is lost when it is sent); they are numbered from 0");
        FleetFloor floor = opened("P.S", "..S");
        tick(floor);
        for (int t = 1; t < 8; t++) {
            tick(floor);
        }
        fillAir(floor, 58);
        tick(floor);
        Check.due("room for two", floor.letters(), 60);
        dueLetter("the 59th", floor, 58, DONE, 0, 0);
        dueLetter("the 60th", floor, 59, LIMIT, 0, 0);
        Check.due("letter 0", floor.letter(0, 0), DONE);
        Check.due("there is no letter 60", floor.letter(60, 0), NONE);
        task(floor, 0, 0);
        String before = lettersOf(floor);
        for (int t = 9; t <= 16; t++) {
            tick(floor);
        }
        Check.due("four moves are granted", floor.vehicle(0, 4), 4);
        Check.due("no letter of them found room", lettersOf(floor), before);
        floor.lose(0);
        for (int t = 17; t <= 24; t++) {
            tick(floor);
        }
        Check.due("sixty again", floor.letters(), 60);
        dueLetter("the first one found room, the second one is lost", floor, 59, DONE, 0, 0);
        floor.lose(0);
        floor.lose(0);
        for (int t = 25; t <= 32; t++) {
            tick(floor);
        }
        dueLetter("both found room", floor, 59, LIMIT, 0, 4);
    }

    private static String lettersOf(FleetFloor floor) {
        String all = state(floor);
        return all.substring(all.indexOf("/ letters"));
    }

    private static void limitComes() {
        Check.sentence("When a LIMIT comes, the vehicle may make so many (if that is more than it might before)");
        FleetFloor floor = opened(crossing(3));
        task(floor, 1, 1);
        task(floor, 0, 0);
        tick(floor);
        fillAir(floor, 4);
        floor.twin(2);
        Check.due("before", floor.vehicle(1, 2), 0);
        deliver(floor, LIMIT, 1, 3);
        Check.due("more", floor.vehicle(1, 2), 3);
        deliver(floor, LIMIT, 1, 3);
        Check.due("as many", floor.vehicle(1, 2), 3);
        Check.due("only that vehicle", floor.vehicle(0, 2), 0);

        FleetFloor late = opened("P.S", "..S");
        tick(late);
        task(late, 0, 0);
        for (int t = 1; t <= 4; t++) {
            tick(late);
        }
        Check.due("the newer LIMIT", deliver(late, LIMIT, 0, 4), true);
        Check.due("comes first", late.vehicle(0, 2), 4);
        Check.due("the older LIMIT", deliver(late, LIMIT, 0, 0), true);
        Check.due("takes nothing back", late.vehicle(0, 2), 4);
        Check.due("so it moves", tick(late), 1);
    }

    private static void doneComes() {
        Check.sentence("when a DONE comes, that is KNOWN (if it is more)");
        FleetFloor floor = opened("P.S", "..S");
        task(floor, 0, 0);
        tick(floor);
        deliver(floor, LIMIT, 0, 4);
        for (int t = 1; t <= 4; t++) {
            tick(floor);
        }
        Check.due("nothing came yet", floor.vehicle(0, 3), 0);
        int[] numbers = {0, 2, 1, 3, 4};
        int[] known = {0, 2, 2, 3, 4};
        for (int i = 0; i < 5; i++) {
            Check.due("DONE " + numbers[i], deliver(floor, DONE, 0, numbers[i]), true);
            Check.due("KNOWN then", floor.vehicle(0, 3), known[i]);
        }
    }

    private static void tickNumbers() {
        Check.sentence("A TICK (numbered from 0) is");
        FleetFloor floor = opened("P.S", "..S");
        Check.due("the first tick is 0", floor.count(2), 0);
        task(floor, 0, 0);
        tick(floor);
        Check.due("in tick 0 there are plans", floor.vehicle(0, 5), 4);
        dueLetter("in tick 0 vehicle 0 tells", floor, 0, DONE, 0, 0);
        Check.due("then comes 1", floor.count(2), 1);
        deliverAll(floor);
        for (int t = 1; t <= 2; t++) {
            Check.due("under way", floor.taskOf(0, 1), NONE);
            tick(floor);
        }
        Check.due("finished in tick 2, the third one", floor.taskOf(0, 1), 2);
    }

    private static void tickMoves() {
        Check.sentence("each vehicle that may make a move makes it, all at once");
        FleetFloor floor = opened(crossing(3));
        task(floor, 1, 1);
        task(floor, 0, 0);
        Check.due("none may", tick(floor), 0);
        deliver(floor, LIMIT, 1, 3);
        Check.due("one may", tick(floor), 1);
        deliver(floor, LIMIT, 0, 18);
        Check.due("both may", tick(floor), 2);
        Check.due("the last one that vehicle 1 may make", tick(floor), 2);
        Check.due("no more than it may", floor.vehicle(1, 1), 3);
        for (int n = 3; n <= 18; n++) {
            Check.due("vehicle 0 alone", tick(floor), 1);
        }
        Check.due("its last one", floor.vehicle(0, 1), 18);
        Check.due("none may make one more", tick(floor), 0);
        Check.due("vehicle 0 stays", floor.vehicle(0, 0), MEETING + 1);
    }

    private static void tickDones() {
        Check.sentence("by rising vehicles: each that made one sends DONE; so does one with tick % 8 = its number % 8");
        FleetFloor floor = opened("PPPPPP", "......", "S....S");
        for (int t = 0; t <= 24; t++) {
            tick(floor);
            int teller = t % 8;
            Check.due("letters in tick " + t, floor.letters(), teller < 6 ? 2 : 0);
            dueLetter("DONE in tick " + t, floor, 0, teller < 6 ? DONE : NONE, teller < 6 ? teller : NONE,
                    teller < 6 ? 0 : NONE);
            loseAll(floor);
        }
        FleetFloor moving = opened(crossing(3));
        task(moving, 1, 1);
        task(moving, 0, 0);
        tick(moving);
        deliverAll(moving);
        tick(moving);
        dueLetter("vehicle 0 moved in tick 1", moving, 0, DONE, 0, 1);
        dueLetter("vehicle 1 moved in its own tick", moving, 1, DONE, 1, 1);
        Check.due("and told it once", moving.letter(2, 0), LIMIT);
    }

    private static void tickPlansEveryFourth() {
        Check.sentence("if tick % 4 = 0, as long as there is a pending task");
        FleetFloor floor = opened("PPP", "...", "S.S");
        task(floor, 0, 0);
        tick(floor);
        Check.due("tick 0", floor.count(0), 0);
        task(floor, 0, 1);
        for (int t = 1; t <= 3; t++) {
            tick(floor);
            Check.due("tick " + t, floor.count(0), 1);
        }
        tick(floor);
        Check.due("tick 4", floor.count(0), 0);
        task(floor, 0, 1);
        for (int t = 5; t <= 7; t++) {
            tick(floor);
            Check.due("tick " + t, floor.count(0), 1);
        }
        tick(floor);
        Check.due("tick 8", floor.count(0), 0);
    }

    private static void tickPlansAsLongAs() {
        Check.sentence("as long as there is a pending task, an idle vehicle, and a plan for both: "
                + "the oldest pending task and the lowest idle vehicle");
        int[] tasks = {0, 1, 5, 6, 7, 24};
        for (int many : tasks) {
            FleetFloor floor = opened("P.P.P.P.P.P.", "............", "............", "S.S.S.S.S.S.");
            for (int n = 0; n < many; n++) {
                task(floor, n % 6, n % 6);
            }
            tick(floor);
            int given = Math.min(many, 6);
            Check.due("pending of " + many, floor.count(0), many - given);
            for (int n = 0; n < 24; n++) {
                Check.due("task " + n + " of " + many, floor.taskOf(n, 0), n < given ? n : NONE);
            }
            for (int v = 0; v < 6; v++) {
                Check.due("vehicle " + v + " with " + many, floor.vehicle(v, 6), v < given ? v : NONE);
            }
        }
    }

    private static void tickWithoutPlan() {
        Check.sentence("without a plan nothing");
        String[] rows = snake("P##P###S####");
        rows[6] = ".###P#######";
        FleetFloor floor = withTasks(rows, new int[][] {{0, 1}, {0, 1}, {0, 0}});
        Check.due("vehicle 1 has no plan for task 1, and gets none for task 2", floor.vehicle(1, 5), 0);
        Check.due("vehicle 2 gets none for task 1", floor.vehicle(2, 5), 0);
        Check.due("both tasks are pending", floor.count(0), 2);
        FleetFloor younger = withTasks(rows, new int[][] {{0, 1}, {0, 0}});
        Check.due("for task 2 vehicle 1 would have had one", younger.taskOf(1, 0), 1);
        for (int t = 1; t <= 4; t++) {
            tick(floor);
        }
        Check.due("the next time task 1 is the oldest and has a plan", floor.taskOf(1, 0), 1);
        Check.due("and task 2 follows", floor.taskOf(2, 0), 2);
        rows[0] = "P######S####";
        FleetFloor fewer = withTasks(rows, new int[][] {{0, 1}, {0, 1}});
        Check.due("without vehicle 1 the next one would have had one for task 1", fewer.taskOf(1, 0), 1);
    }

    private static void idle() {
        Check.sentence("IDLE: KNOWN is all its moves");
        FleetFloor floor = opened("P.S", "..S");
        task(floor, 0, 0);
        tick(floor);
        Check.due("0 of 0", floor.taskOf(0, 0), 0);
        task(floor, 0, 0);
        deliver(floor, LIMIT, 0, 4);
        for (int t = 1; t <= 4; t++) {
            tick(floor);
        }
        Check.due("0 of 4, though all are made", floor.taskOf(1, 0), NONE);
        deliver(floor, DONE, 0, 3);
        for (int t = 5; t <= 8; t++) {
            tick(floor);
        }
        Check.due("3 of 4", floor.taskOf(1, 0), NONE);
        deliver(floor, DONE, 0, 4);
        for (int t = 9; t <= 11; t++) {
            tick(floor);
        }
        Check.due("4 of 4, but no tick for plans", floor.taskOf(1, 0), NONE);
        tick(floor);
        Check.due("4 of 4", floor.taskOf(1, 0), 0);
    }

    private static void tickLimits() {
        Check.sentence("by rising vehicles: all its moves that can be are granted; if any were, "
                + "or tick % 8 = its number % 8, LIMIT is sent");
        FleetFloor floor = bothUnderWay();
        loseAllButDones(floor);
        tick(floor);
        Check.due("nothing granted in tick 5: vehicle 0 tells and that is all", lastLetter(floor), "1:0:5");
        deliver(floor, DONE, 0, 4);
        tick(floor);
        Check.due("vehicle 1 is granted eleven at once", lastLetter(floor), "0:1:14");
        int letters = floor.letters();
        tick(floor);
        Check.due("the tick behind it sends none again", floor.letters(), letters + 1);
        Check.due("but DONE", lastLetter(floor), "1:0:7");
        tick(floor);
        Check.due("tick 8 is vehicle 0's: granted nothing, and yet LIMIT", lastLetter(floor), "0:0:18");
        tick(floor);
        Check.due("tick 9 is vehicle 1's", lastLetter(floor), "0:1:14");
    }

    private static void loseAllButDones(FleetFloor floor) {
        for (int k = floor.letters() - 1; k >= 0; k--) {
            if (floor.letter(k, 0) == LIMIT) {
                floor.lose(k);
            }
        }
    }

    private static String lastLetter(FleetFloor floor) {
        int k = floor.letters() - 1;
        return floor.letter(k, 0) + ":" + floor.letter(k, 1) + ":" + floor.letter(k, 2);
    }

    private static void tickPlansAheadOfGrants() {
        Check.sentence("All of 3 ahead of 4");
        FleetFloor floor = bothUnderWay();
        deliver(floor, DONE, 0, 4);
        tick(floor);
        deliver(floor, LIMIT, 1, 14);
        for (int t = 6; t <= 19; t++) {
            tick(floor);
        }
        task(floor, 0, 0);
        Check.due("vehicle 1 is home: idle, and out of the way", deliver(floor, DONE, 1, 14), true);
        Check.due("the clock ahead of tick 20", floor.count(3), 18);
        tick(floor);
        Check.due("the plan of tick 20 begins there", floor.move(1, 14, 1), 19);
        Check.due("the grants of tick 20 came behind it", floor.count(3), 22);
        Check.due("the new plan was granted up to the crossing", floor.vehicle(1, 4), 17);
    }

    private static void finished() {
        Check.sentence("A task is FINISHED in the tick in which its vehicle makes the move by which it comes "
                + "to the second station as its plan has it (behind the first one, or with it)");
        FleetFloor with = opened("P.S.S", ".....");
        task(with, 0, 0);
        run(with, 2);
        Check.due("on the way", with.taskOf(0, 1), NONE);
        run(with, 1);
        Check.due("with the first one", with.taskOf(0, 1), 2);

        FleetFloor behind = opened("P.S.S", ".....");
        task(behind, 1, 0);
        run(behind, 3);
        Check.due("it is at the second station", behind.vehicle(0, 0), 2);
        Check.due("but was not at the first one", behind.taskOf(0, 1), NONE);
        run(behind, 2);
        Check.due("it is at the first one", behind.vehicle(0, 0), 4);
        Check.due("but not at the second one", behind.taskOf(0, 1), NONE);
        run(behind, 1);
        Check.due("one before it", behind.taskOf(0, 1), NONE);
        run(behind, 1);
        Check.due("behind the first one", behind.taskOf(0, 1), 6);
        run(behind, 12);
        Check.due("what comes later changes nothing", behind.taskOf(0, 1), 6);

        FleetFloor late = opened("P.S.S", ".....");
        task(late, 0, 0);
        tick(late);
        for (int t = 1; t <= 9; t++) {
            tick(late);
        }
        deliver(late, LIMIT, 0, 4);
        tick(late);
        tick(late);
        Check.due("the tick counts, not the plan's time", late.taskOf(0, 1), 11);
    }
}
