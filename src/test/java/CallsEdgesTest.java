/** The edges that promises 1 to 14 name, each sentence with a test of its own. */
public final class CallsEdgesTest extends Floors {
    private static final int LIMIT = 0;
    private static final int DONE = 1;

    /** Two vehicles, so that a call about one of them can be told from a call about the other. */
    private static final String[] TWO = {"P.S.P", ".....", "..S.."};

    private CallsEdgesTest() {
    }

    public static void main(String[] args) {
        newObjectIsAllWalls();
        newObjectIsNotOpen();
        cellBecomesOfAKind();
        cellWhenOpen();
        cellNoSuchCellOrKind();
        openAnswers();
        openNotGood();
        openAlready();
        taskNumbers();
        taskOfOneStation();
        taskNotOpen();
        taskWhenThereWere24();
        taskNoSuchStation();
        tickAnswers();
        tickNotOpen();
        lettersEmptyAndFull();
        letterAnswers();
        letterNoneSuch();
        deliverNextTick();
        deliverNoneSuch();
        loseFirstAndLast();
        loseNoneSuch();
        twinUpToSixty();
        twinNoneSuch();
        vehicleAnswers();
        vehicleTaskInHand();
        vehicleNoneSuch();
        moveAnswers();
        moveNoneSuch();
        taskOfAnswers();
        taskOfNoneSuch();
        countPending();
        countOthers();
        countNoneSuch();
        Check.end();
    }

    private static void newObjectIsAllWalls() {
        Check.sentence("All walls; not open.");
        for (int spared = 0; spared < 96; spared += 12) {
            FleetFloor floor = new FleetFloor();
            for (int y = 0; y < 8; y++) {
                floor.cell(12 * y + 5, 12 * y == spared ? FleetFloor.PARKING : FleetFloor.FLOOR);
            }
            floor.cell(spared + 3, FleetFloor.STATION);
            floor.cell(spared + 7, FleetFloor.STATION);
            Check.due("what was not changed is wall, row " + spared / 12, open(floor), ARGUMENT);
            floor.cell(spared + 4, FleetFloor.STATION);
            floor.cell(spared + 6, FleetFloor.STATION);
            floor.cell(spared + 3, FleetFloor.WALL);
            floor.cell(spared + 7, FleetFloor.WALL);
            Check.due("no way round either, row " + spared / 12, open(floor), ARGUMENT);
        }
    }

    private static void newObjectIsNotOpen() {
        Check.sentence("All walls; not open.");
        FleetFloor floor = new FleetFloor();
        Check.due("tick", tick(floor), STATE);
        Check.due("task", task(floor, 0, 0), STATE);
        Check.due("open", open(floor), ARGUMENT);
        Check.due("cell", floor.cell(95, FleetFloor.WALL), true);
        String nothing = "-1 -1 -1 -1 -1 " + "/ vehicle -1 -1 -1 -1 -1 -1 -1 ".repeat(6)
                + "/ tasks " + "-1:-1 ".repeat(24) + "/ letters 0 ";
        Check.due("whatever is asked", state(floor), nothing);
        Check.due("deliver", floor.deliver(0), false);
        Check.due("lose", floor.lose(0), false);
        Check.due("twin", floor.twin(0), false);
    }

    private static void cellBecomesOfAKind() {
        Check.sentence("A cell becomes of a kind: true");
        FleetFloor floor = drawn("P.S", "S..");
        int[] kinds = {FleetFloor.PARKING, FleetFloor.STATION, FleetFloor.WALL, FleetFloor.FLOOR};
        for (int kind : kinds) {
            Check.due("a cell again and again", floor.cell(13, kind), true);
            Check.due("the same kind twice", floor.cell(13, kind), true);
        }
        Check.due("the last kind counts", open(floor), 1);
        Check.due("two stations", floor.count(4), 2);

        FleetFloor whole = new FleetFloor();
        for (int cell = 0; cell < 96; cell++) {
            for (int kind = 0; kind <= 3; kind++) {
                Check.due("cell " + cell + " of kind " + kind, whole.cell(cell, kind), true);
            }
        }
        Check.due("96 parkings", open(whole), ARGUMENT);
    }

    private static void cellWhenOpen() {
        Check.sentence("false, refused, when the floor is open");
        FleetFloor floor = opened("P.S", "#..", "#.S");
        for (int cell = 0; cell < 96; cell++) {
            Check.due("cell " + cell, floor.cell(cell, cell % 4), false);
        }
        Check.due("vehicles", floor.vehicle(1, 0), NONE);
        Check.due("stations", floor.count(4), 2);
        task(floor, 0, 1);
        tick(floor);
        dueMoves("the map is as it was", floor, 0, 1, 2, 14, 26, 14, 2, 1, 0);
        Check.due("behind a tick", floor.cell(0, FleetFloor.WALL), false);
    }

    private static void cellNoSuchCellOrKind() {
        Check.sentence("or there is no such cell or kind");
        FleetFloor floor = drawn("P.S", "S..");
        int[] noCells = {-1, 96, -12, -96, 97, 108, 256, Integer.MIN_VALUE, Integer.MAX_VALUE};
        int[] noKinds = {-1, 4, -4, 5, 8, 256, Integer.MIN_VALUE, Integer.MAX_VALUE};
        for (int cell : noCells) {
            for (int kind = 0; kind <= 3; kind++) {
                Check.due("cell " + cell, floor.cell(cell, kind), false);
            }
            Check.due("neither", floor.cell(cell, 4), false);
        }
        for (int kind : noKinds) {
            Check.due("first cell, kind " + kind, floor.cell(0, kind), false);
            Check.due("last cell, kind " + kind, floor.cell(95, kind), false);
            Check.due("some cell, kind " + kind, floor.cell(13, kind), false);
        }
        Check.due("the map is as it was", open(floor), 1);
        task(floor, 0, 1);
        tick(floor);
        dueMoves("all of it", floor, 0, 1, 2, 14, 13, 12, 0);
    }

    private static void openAnswers() {
        Check.sentence("Opens the floor: how many vehicles there are.");
        String[] tops = {"P", "PP", "PPP", "PPPP", "PPPPP", "PPPPPP"};
        for (int n = 0; n < 6; n++) {
            FleetFloor floor = drawn(tops[n], "......", "S....S");
            Check.due("vehicles", open(floor), n + 1);
            dueCounts("behind it", floor, 0, 0, 0, 0, 2);
            Check.due("the last one", floor.vehicle(n, 0), n);
            Check.due("no one more", floor.vehicle(n + 1, 0), NONE);
            Check.due("the floor ticks", tick(floor), 0);
        }
    }

    private static void openNotGood() {
        Check.sentence("IllegalArgumentException, when the map is not GOOD");
        FleetFloor floor = drawn("P.S", "#.#", "###");
        for (int n = 0; n < 3; n++) {
            Check.due("one station", open(floor), ARGUMENT);
        }
        Check.due("it is not open", tick(floor), STATE);
        Check.due("so there is no count", floor.count(2), NONE);
        Check.due("nor a vehicle", floor.vehicle(0, 0), NONE);
        Check.due("nor a task", task(floor, 0, 0), STATE);
        Check.due("the map can be changed", floor.cell(25, FleetFloor.STATION), true);
        Check.due("now it is good", open(floor), 1);
        dueCounts("nothing is left of the refused calls", floor, 0, 0, 0, 0, 2);
    }

    private static void openAlready() {
        Check.sentence("IllegalStateException, when it is open already");
        FleetFloor floor = opened(TWO);
        Check.due("at once", open(floor), STATE);
        task(floor, 0, 1);
        run(floor, 3);
        String before = state(floor);
        Check.due("under way", open(floor), STATE);
        Check.due("nothing changed", state(floor), before);
        Check.due("the floor goes on", tick(floor), 1);
    }

    private static void taskNumbers() {
        Check.sentence("arrives, pending: its number, from 0 on");
        FleetFloor floor = opened(TWO);
        for (int n = 0; n < 24; n++) {
            Check.due("number", task(floor, n % 2, 0), n);
            Check.due("no vehicle yet", floor.taskOf(n, 0), NONE);
            Check.due("pending", floor.count(0), n + 1);
            Check.due("all", floor.count(1), n + 1);
        }
    }

    private static void taskOfOneStation() {
        Check.sentence("(both stations may be one)");
        FleetFloor floor = opened(TWO);
        Check.due("the first one twice", task(floor, 0, 0), 0);
        Check.due("the last one twice", task(floor, 1, 1), 1);
        run(floor, 8);
        Check.due("finished", floor.taskOf(0, 1), 2);
        Check.due("finished too", floor.taskOf(1, 1) > 0, true);
    }

    private static void taskNotOpen() {
        Check.sentence("IllegalStateException, when the floor is not open, or there were 24");
        FleetFloor floor = drawn(TWO);
        Check.due("good, but not open", task(floor, 0, 1), STATE);
        Check.due("no such station either", task(floor, -1, 99), STATE);
        open(floor);
        Check.due("none of them arrived", floor.count(1), 0);
        Check.due("the first one", task(floor, 0, 1), 0);
    }

    private static void taskWhenThereWere24() {
        Check.sentence("or there were 24; otherwise IllegalArgumentException");
        FleetFloor floor = opened("P.S", "S..");
        for (int n = 0; n < 23; n++) {
            task(floor, 1, 1);
        }
        Check.due("the 24th, no such station", task(floor, 2, 0), ARGUMENT);
        Check.due("the 24th", task(floor, 0, 1), 23);
        String before = state(floor);
        Check.due("the 25th", task(floor, 0, 1), STATE);
        Check.due("the 25th, no such station", task(floor, 2, 0), STATE);
        Check.due("nothing changed", state(floor), before);
        run(floor, 100);
        Check.due("all have a plan", floor.count(0), 0);
        run(floor, 10);
        Check.due("all are finished", floor.taskOf(23, 1) > 0, true);
        Check.due("there were 24 all the same", task(floor, 0, 1), STATE);
        Check.due("all tasks", floor.count(1), 24);
    }

    private static void taskNoSuchStation() {
        Check.sentence("otherwise IllegalArgumentException, when there is no such station");
        dueStations(opened(TWO), 2);
        String[] rows = {"P...........", "............", "SSSSSSSSSSSS"};
        FleetFloor most = drawn(rows);
        for (int x = 4; x < 8; x++) {
            most.cell(x, FleetFloor.STATION);
        }
        open(most);
        dueStations(most, 16);
    }

    private static void dueStations(FleetFloor floor, int many) {
        Check.due("stations", floor.count(4), many);
        int[] none = {-1, many, -many, many + 1, Integer.MIN_VALUE, Integer.MAX_VALUE};
        for (int number : none) {
            Check.due("first " + number, task(floor, number, 0), ARGUMENT);
            Check.due("second " + number, task(floor, 0, number), ARGUMENT);
            Check.due("both " + number, task(floor, number, number), ARGUMENT);
        }
        Check.due("no task arrived", floor.count(1), 0);
        Check.due("the last station as the first", task(floor, many - 1, 0), 0);
        Check.due("the last station as the second", task(floor, 0, many - 1), 1);
    }

    private static void tickAnswers() {
        Check.sentence("A TICK: how many vehicles moved.");
        FleetFloor floor = opened("P.P.P.P.P.P.", "............", "............", "S.S.S.S.S.S.");
        for (int n = 0; n < 6; n++) {
            task(floor, n, n);
        }
        Check.due("none", tick(floor), 0);
        for (int v = 0; v < 6; v++) {
            Check.due("LIMIT of vehicle " + v, deliver(floor, LIMIT, v, 6), true);
            Check.due("those with a LIMIT", tick(floor), v + 1);
        }
        Check.due("vehicle 0 is home", tick(floor), 5);
        for (int v = 1; v < 6; v++) {
            Check.due("one less", tick(floor), 5 - v);
        }
    }

    private static void tickNotOpen() {
        Check.sentence("IllegalStateException, when the floor is not open.");
        FleetFloor floor = drawn("P.S", "S..");
        for (int n = 0; n < 5; n++) {
            Check.due("not open", tick(floor), STATE);
        }
        open(floor);
        Check.due("no tick was counted", floor.count(2), 0);
        Check.due("no letter was sent", floor.letters(), 0);
        task(floor, 0, 0);
        tick(floor);
        Check.due("so this was tick 0, with plans", floor.count(0), 0);
    }

    private static void lettersEmptyAndFull() {
        Check.sentence("How many letters there are.");
        FleetFloor floor = drawn("P.S", "S..");
        Check.due("not open", floor.letters(), 0);
        open(floor);
        Check.due("none", floor.letters(), 0);
        tick(floor);
        for (int n = 2; n < 60; n++) {
            Check.due("letters", floor.letters(), n);
            floor.twin(0);
        }
        Check.due("sixty", floor.letters(), 60);
        floor.twin(0);
        Check.due("no more than that", floor.letters(), 60);
        for (int n = 59; n >= 0; n--) {
            floor.lose(0);
            Check.due("letters", floor.letters(), n);
        }
        floor.lose(0);
        Check.due("no less than none", floor.letters(), 0);
    }

    private static void letterAnswers() {
        Check.sentence("Of letter k: 0 LIMIT or 1 DONE (what 0), its vehicle (1), its number (2).");
        FleetFloor floor = opened(TWO);
        task(floor, 0, 0);
        tick(floor);
        dueLetter("the first", floor, 0, 1, 0, 0);
        dueLetter("the second", floor, 1, 0, 0, 4);
        tick(floor);
        dueLetter("of another vehicle", floor, 2, 1, 1, 0);
        deliver(floor, LIMIT, 0, 4);
        tick(floor);
        dueLetter("of a move", floor, floor.letters() - 1, 1, 0, 1);
        dueLetter("an old one stays as it was sent", floor, 0, 1, 0, 0);
    }

    private static void letterNoneSuch() {
        Check.sentence("NONE, when there is none such, or what.");
        FleetFloor floor = opened(TWO);
        Check.due("no letter at all", floor.letter(0, 0), NONE);
        tick(floor);
        fillAir(floor, 60);
        int[] none = {-1, 60, 61, -60, Integer.MIN_VALUE, Integer.MAX_VALUE};
        int[] noWhat = {-1, 3, 4, Integer.MIN_VALUE, Integer.MAX_VALUE};
        for (int k : none) {
            dueLetter("letter " + k, floor, k, NONE, NONE, NONE);
        }
        for (int what : noWhat) {
            Check.due("what " + what, floor.letter(0, what), NONE);
            Check.due("of the last one, what " + what, floor.letter(59, what), NONE);
        }
        dueLetter("the last one", floor, 59, DONE, 0, 0);
        floor.lose(59);
        dueLetter("when it is gone", floor, 59, NONE, NONE, NONE);
        dueLetter("the one before it", floor, 58, DONE, 0, 0);
    }

    private static void deliverNextTick() {
        Check.sentence("Letter k comes (a vehicle moves in the next tick at the earliest), and is gone: true");
        FleetFloor floor = opened(TWO);
        task(floor, 0, 0);
        tick(floor);
        Check.due("LIMIT", floor.deliver(1), true);
        Check.due("it is gone", floor.letters(), 1);
        Check.due("it may", floor.vehicle(0, 2), 4);
        Check.due("but did not yet", floor.vehicle(0, 1), 0);
        Check.due("nor is it anywhere else", floor.vehicle(0, 0), 0);
        Check.due("in the next tick", tick(floor), 1);
        Check.due("one move", floor.vehicle(0, 1), 1);

        FleetFloor full = opened(TWO);
        task(full, 0, 0);
        tick(full);
        fillAir(full, 59);
        full.twin(1);
        Check.due("the sixtieth comes", full.deliver(59), true);
        Check.due("it may", full.vehicle(0, 2), 4);
        Check.due("59 are left", full.letters(), 59);
        Check.due("the first comes", full.deliver(0), true);
        dueLetter("those behind it move up", full, 0, LIMIT, 0, 4);
    }

    private static void deliverNoneSuch() {
        Check.sentence("and is gone: true; false when there is none such.");
        dueNoneSuch((floor, k) -> floor.deliver(k));
    }

    private static void loseFirstAndLast() {
        Check.sentence("Letter k is gone: true");
        FleetFloor floor = opened(TWO);
        task(floor, 0, 0);
        tick(floor);
        tick(floor);
        Check.due("four letters", floor.letters(), 4);
        Check.due("the last", floor.lose(3), true);
        dueLetter("the one before it is the last", floor, 2, DONE, 1, 0);
        Check.due("one in the middle", floor.lose(1), true);
        dueLetter("the next one moves up", floor, 1, DONE, 1, 0);
        Check.due("the first", floor.lose(0), true);
        dueLetter("the rest", floor, 0, DONE, 1, 0);
        Check.due("the only one", floor.lose(0), true);
        Check.due("none is left", floor.letters(), 0);
        Check.due("no LIMIT came", floor.vehicle(0, 2), 0);
        Check.due("nobody moves", tick(floor), 0);
    }

    private static void loseNoneSuch() {
        Check.sentence("Letter k is gone: true; false when there is none such.");
        dueNoneSuch((floor, k) -> floor.lose(k));
    }

    private static void twinUpToSixty() {
        Check.sentence("A letter like letter k is sent: true; false when there is none such, or there are 60.");
        FleetFloor floor = opened(TWO);
        task(floor, 0, 0);
        tick(floor);
        for (int n = 2; n < 60; n++) {
            Check.due("a twin", floor.twin(n % 2), true);
            dueLetter("it is the last", floor, n, n % 2 == 0 ? DONE : LIMIT, 0, n % 2 == 0 ? 0 : 4);
        }
        String before = state(floor);
        for (int k = 0; k < 60; k++) {
            Check.due("no twin beside sixty", floor.twin(k), false);
        }
        Check.due("none such beside sixty", floor.twin(60), false);
        Check.due("nothing changed", state(floor), before);
        floor.lose(0);
        Check.due("a twin of the last of 59", floor.twin(58), true);
        dueLetter("it is the sixtieth", floor, 59, LIMIT, 0, 4);
        Check.due("again full", floor.twin(0), false);
        floor.deliver(0);
        Check.due("the first twin again", floor.deliver(58), true);
        Check.due("a twin comes like its letter", floor.vehicle(0, 2), 4);
    }

    private static void twinNoneSuch() {
        Check.sentence("is sent: true; false when there is none such");
        dueNoneSuch((floor, k) -> floor.twin(k));
    }

    private interface LetterCall {
        boolean on(FleetFloor floor, int k);
    }

    /** A call about a letter that is not there is refused, and changes nothing. */
    private static void dueNoneSuch(LetterCall call) {
        Check.due("not open", call.on(drawn(TWO), 0), false);
        FleetFloor floor = opened(TWO);
        Check.due("no letter at all", call.on(floor, 0), false);
        task(floor, 0, 0);
        tick(floor);
        int[] none = {-1, 2, 3, -2, 60, Integer.MIN_VALUE, Integer.MAX_VALUE};
        String before = state(floor);
        for (int k : none) {
            Check.due("letter " + k, call.on(floor, k), false);
            Check.due("nothing changed by " + k, state(floor), before);
        }
        Check.due("the last one there is", call.on(floor, 1), true);
        Check.due("nobody moved by that", floor.vehicle(0, 1), 0);
    }

    private static void vehicleAnswers() {
        Check.sentence("Of a vehicle: its cell (what 0), moves made (1), how many it may make (2), KNOWN (3), "
                + "moves granted (4), all its moves (5)");
        FleetFloor floor = opened(FORK);
        task(floor, 0, 0);
        task(floor, 0, 0);
        tick(floor);
        dueVehicle("with a plan", floor, 1, 24, 0, 0, 0, 4, 10, 1);
        deliverAll(floor);
        dueVehicle("with a LIMIT", floor, 1, 24, 0, 4, 0, 4, 10, 1);
        tick(floor);
        dueVehicle("with one move", floor, 1, 25, 1, 4, 0, 4, 10, 1);
        deliver(floor, DONE, 1, 1);
        dueVehicle("that is known", floor, 1, 25, 1, 4, 1, 4, 10, 1);
        for (int t = 2; t <= 4; t++) {
            tick(floor);
        }
        dueVehicle("as far as it may", floor, 1, 13, 4, 4, 1, 4, 10, 1);
        deliver(floor, DONE, 0, 4);
        tick(floor);
        dueVehicle("granted to the end", floor, 1, 13, 4, 4, 1, 10, 10, 1);
        run(floor, 6);
        dueVehicle("home", floor, 1, 24, 10, 10, 9, 10, 10, 1);
        deliverAll(floor);
        dueVehicle("and known", floor, 1, 24, 10, 10, 10, 10, 10, 1);
        dueVehicle("the other one", floor, 0, 0, 4, 4, 4, 4, 4, 0);
    }

    private static void vehicleTaskInHand() {
        Check.sentence("its task in hand or the latest one (6; NONE without)");
        FleetFloor floor = opened("P.S", "S..");
        Check.due("without", floor.vehicle(0, 6), NONE);
        task(floor, 0, 0);
        task(floor, 1, 1);
        Check.due("a pending one is not in hand", floor.vehicle(0, 6), NONE);
        tick(floor);
        Check.due("in hand", floor.vehicle(0, 6), 0);
        run(floor, 4);
        Check.due("home", floor.vehicle(0, 1), 4);
        Check.due("the latest one", floor.vehicle(0, 6), 0);
        run(floor, 4);
        Check.due("the next one", floor.vehicle(0, 6), 1);
        run(floor, 20);
        Check.due("the latest one stays", floor.vehicle(0, 6), 1);
    }

    private static void vehicleNoneSuch() {
        Check.sentence("NONE, when the floor is not open, or there is no such vehicle or what.");
        FleetFloor floor = drawn(TWO);
        for (int what = -1; what <= 7; what++) {
            Check.due("not open", floor.vehicle(0, what), NONE);
        }
        open(floor);
        task(floor, 0, 0);
        run(floor, 3);
        int[] none = {-1, 2, 3, -2, 6, Integer.MIN_VALUE, Integer.MAX_VALUE};
        for (int v : none) {
            dueVehicle("vehicle " + v, floor, v, NONE, NONE, NONE, NONE, NONE, NONE, NONE);
        }
        int[] noWhat = {-1, 7, 8, Integer.MIN_VALUE, Integer.MAX_VALUE};
        for (int what : noWhat) {
            Check.due("what " + what, floor.vehicle(0, what), NONE);
        }
        Check.due("the last vehicle", floor.vehicle(1, 0), 4);
        Check.due("the last what", floor.vehicle(0, 6), 0);
    }

    private static void moveAnswers() {
        Check.sentence("Of move i of a vehicle (granted or not): its cell (what 0), its time (1).");
        FleetFloor floor = opened(FORK);
        task(floor, 0, 0);
        task(floor, 0, 0);
        tick(floor);
        Check.due("the last one that is granted", floor.vehicle(1, 4), 4);
        int[] cells = {25, 13, 25, 13, 1, 2, 1, 13, 25, 24};
        for (int i = 0; i < 10; i++) {
            Check.due("cell of move " + i, floor.move(1, i, 0), cells[i]);
            Check.due("time of move " + i, floor.move(1, i, 1), i + 1);
        }
        run(floor, 30);
        Check.due("a move that was made long ago", floor.move(1, 0, 0), 25);
        Check.due("and its time", floor.move(1, 0, 1), 1);
    }

    private static void moveNoneSuch() {
        Check.sentence("NONE, when the floor is not open, or there is none such, or what.");
        FleetFloor floor = drawn(TWO);
        Check.due("not open", floor.move(0, 0, 0), NONE);
        Check.due("not open, time", floor.move(0, 0, 1), NONE);
        open(floor);
        Check.due("no move yet", floor.move(0, 0, 0), NONE);
        task(floor, 0, 0);
        tick(floor);
        int[] noMove = {-1, 4, 5, -4, Integer.MIN_VALUE, Integer.MAX_VALUE};
        int[] noVehicle = {-1, 2, 6, Integer.MIN_VALUE, Integer.MAX_VALUE};
        int[] noWhat = {-1, 2, 3, Integer.MIN_VALUE, Integer.MAX_VALUE};
        for (int what = 0; what <= 1; what++) {
            for (int i : noMove) {
                Check.due("move " + i, floor.move(0, i, what), NONE);
            }
            for (int v : noVehicle) {
                Check.due("vehicle " + v, floor.move(v, 0, what), NONE);
            }
            Check.due("a vehicle without moves", floor.move(1, 0, what), NONE);
        }
        for (int what : noWhat) {
            Check.due("what " + what, floor.move(0, 0, what), NONE);
        }
        Check.due("the last move's cell", floor.move(0, 3, 0), 0);
        Check.due("the last move's time", floor.move(0, 3, 1), 4);
    }

    private static void taskOfAnswers() {
        Check.sentence("Of a task: its vehicle (what 0), the tick in which it was finished (1); NONE when not yet");
        FleetFloor floor = opened("P.S", "S..");
        task(floor, 0, 0);
        task(floor, 1, 1);
        Check.due("no vehicle yet", floor.taskOf(0, 0), NONE);
        tick(floor);
        Check.due("its vehicle", floor.taskOf(0, 0), 0);
        Check.due("not finished yet", floor.taskOf(0, 1), NONE);
        Check.due("the next one has no vehicle yet", floor.taskOf(1, 0), NONE);
        run(floor, 1);
        Check.due("one before the station", floor.taskOf(0, 1), NONE);
        run(floor, 1);
        Check.due("finished", floor.taskOf(0, 1), 2);
        Check.due("the next one is not", floor.taskOf(1, 1), NONE);
        run(floor, 10);
        Check.due("the next one's vehicle", floor.taskOf(1, 0), 0);
        Check.due("the next one is finished too", floor.taskOf(1, 1), 9);
        Check.due("the first one's tick stays", floor.taskOf(0, 1), 2);

        FleetFloor atOnce = opened("PS", "S.");
        tick(atOnce);
        task(atOnce, 0, 0);
        run(atOnce, 5);
        Check.due("the earliest end of a task", atOnce.taskOf(0, 1), 5);
    }

    private static void taskOfNoneSuch() {
        Check.sentence("NONE when not yet, or there is no such task or what.");
        FleetFloor floor = drawn(TWO);
        Check.due("not open", floor.taskOf(0, 0), NONE);
        open(floor);
        Check.due("no task", floor.taskOf(0, 0), NONE);
        for (int n = 0; n < 2; n++) {
            task(floor, n, n);
        }
        run(floor, 12);
        int[] none = {-1, 2, 3, 23, 24, -2, Integer.MIN_VALUE, Integer.MAX_VALUE};
        int[] noWhat = {-1, 2, 3, Integer.MIN_VALUE, Integer.MAX_VALUE};
        for (int n : none) {
            Check.due("vehicle of task " + n, floor.taskOf(n, 0), NONE);
            Check.due("tick of task " + n, floor.taskOf(n, 1), NONE);
        }
        for (int what : noWhat) {
            Check.due("what " + what, floor.taskOf(0, what), NONE);
        }
        Check.due("the last task", floor.taskOf(1, 0), 1);
        for (int n = 2; n < 24; n++) {
            task(floor, n % 2, n % 2);
        }
        run(floor, 150);
        Check.due("task 23", floor.taskOf(23, 1) > 0, true);
        Check.due("task 24", floor.taskOf(24, 0), NONE);
    }

    private static void countPending() {
        Check.sentence("Pending tasks (what 0; those without a plan yet), all tasks (1)");
        FleetFloor floor = opened(TWO);
        Check.due("none", floor.count(0), 0);
        for (int n = 0; n < 24; n++) {
            task(floor, n % 2, n % 2);
        }
        Check.due("all are pending", floor.count(0), 24);
        tick(floor);
        Check.due("two have a plan, though no move was made", floor.count(0), 22);
        int pending = 22;
        for (int t = 1; t < 150; t++) {
            run(floor, 1);
            int given = 0;
            for (int n = 0; n < 24; n++) {
                given += floor.taskOf(n, 0) == NONE ? 0 : 1;
            }
            Check.due("those without a vehicle", floor.count(0), 24 - given);
            Check.due("never more", floor.count(0) <= pending, true);
            Check.due("all tasks", floor.count(1), 24);
            pending = floor.count(0);
        }
        Check.due("none again", floor.count(0), 0);
    }

    private static void countOthers() {
        Check.sentence("the tick to come (2), THE PLAN CLOCK (3), stations (4)");
        FleetFloor floor = opened("P.S", "S..");
        dueCounts("at first", floor, 0, 0, 0, 0, 2);
        for (int t = 0; t < 10; t++) {
            Check.due("the tick to come", floor.count(2), t);
            tick(floor);
        }
        task(floor, 0, 0);
        dueCounts("with a task", floor, 1, 1, 10, 0, 2);
        tick(floor);
        tick(floor);
        dueCounts("no plan before tick 12", floor, 1, 1, 12, 0, 2);
        tick(floor);
        dueCounts("with a plan", floor, 0, 1, 13, 4, 2);
        FleetFloor most = drawn("P...........", "............", "SSSSSSSSSSSS");
        for (int x = 4; x < 8; x++) {
            most.cell(x, FleetFloor.STATION);
        }
        open(most);
        Check.due("the most stations", most.count(4), 16);
    }

    private static void countNoneSuch() {
        Check.sentence("NONE for another what, or when the floor is not open.");
        FleetFloor floor = drawn(TWO);
        int[] noWhat = {-1, 5, 6, Integer.MIN_VALUE, Integer.MAX_VALUE};
        for (int what = 0; what <= 4; what++) {
            Check.due("not open, what " + what, floor.count(what), NONE);
        }
        for (int what : noWhat) {
            Check.due("neither, what " + what, floor.count(what), NONE);
        }
        open(floor);
        for (int what = 0; what <= 3; what++) {
            Check.due("what " + what, floor.count(what), 0);
        }
        Check.due("the last what", floor.count(4), 2);
        for (int what : noWhat) {
            Check.due("what " + what, floor.count(what), NONE);
        }
    }
}
