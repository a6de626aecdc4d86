import java.util.Random;

/** Long runs of calls on floors of many shapes: each answer is compared with that of the slow model. */
public final class ModelTest {
    private static final int RUNS = 400;
    private static final int CALLS = 512;
    private static final int SNAKE = 5;
    private static final int ILLEGAL_ARGUMENT = -2;
    private static final int ILLEGAL_STATE = -3;

    private final Random dice;
    private final String name;
    private final FleetFloor floor = new FleetFloor();
    private final FleetFloorModel model = new FleetFloorModel();
    private int calls;

    private ModelTest(int seed) {
        dice = new Random(seed);
        name = "run " + seed + ", call ";
    }

    public static void main(String[] args) {
        int runs = args.length > 0 ? Integer.parseInt(args[0]) : RUNS;
        for (int seed = 0; seed < runs && Check.allRight(); seed++) {
            new ModelTest(seed).run();
        }
        new ModelTest(-1).runOn(Floors.RING, Floors.RING_TASKS);
        new ModelTest(-2).runOn(Floors.LADDER, Floors.LADDER_TASKS);
        new ModelTest(-3).runOn(Floors.LATE, Floors.LATE_TASKS);
        System.out.println("plans " + FleetFloorModel.plansMade + ", missing " + FleetFloorModel.plansMissing
                + ", stays " + FleetFloorModel.staysPlanned + ", grants held back "
                + FleetFloorModel.grantsHeldBack + ", letters dropped " + FleetFloorModel.lettersDropped
                + ", tasks finished " + FleetFloorModel.finishes);
        Check.due("the runs have missing plans", FleetFloorModel.plansMissing > 0, true);
        Check.due("the runs have stays", FleetFloorModel.staysPlanned > 0, true);
        Check.due("the runs hold grants back", FleetFloorModel.grantsHeldBack > 0, true);
        Check.due("the runs drop letters", FleetFloorModel.lettersDropped > 0, true);
        Check.due("the runs finish tasks", FleetFloorModel.finishes > 0, true);
        Check.end();
    }

    private void run() {
        drawMap();
        int careful = dice.nextInt(4);
        int burst = 1 + dice.nextInt(8);
        for (int i = 0; i < 8; i++) {
            addTask();
        }
        while (calls < CALLS && Check.allRight()) {
            if (dice.nextInt(40) == 0) {
                addTask();
            }
            for (int i = dice.nextInt(burst); i >= 0; i--) {
                sameTick();
            }
            useAir(careful);
            if (dice.nextInt(20) == 0) {
                askNonsense();
            }
            if (dice.nextInt(5) == 0) {
                compareAll();
            }
        }
        compareAll();
    }

    /** A floor that chance would hardly draw; all letters come at once. */
    private void runOn(String[] rows, int[][] tasks) {
        for (int c = 0; c < 96; c++) {
            int kind = "#.SP".indexOf(rows[c / 12].charAt(c % 12));
            due("cell", floor.cell(c, kind), model.cell(c, kind));
        }
        sameOpen();
        for (int[] stations : tasks) {
            sameTask(stations[0], stations[1]);
        }
        while (calls < CALLS) {
            sameTick();
            compareAll();
            useAir(3);
        }
    }

    private void due(String call, long got, long want) {
        calls++;
        Check.due(name + calls + ": " + call, got, want);
    }

    private void due(String call, boolean got, boolean want) {
        due(call, got ? 1 : 0, want ? 1 : 0);
    }

    /** Draws maps until one is good; each that is not good is opened too. */
    private void drawMap() {
        for (int tries = 0; tries < 2000; tries++) {
            int shape = dice.nextInt(6);
            int[] kinds = new int[96];
            for (int c = 0; c < 96; c++) {
                kinds[c] = ground(shape, c % 12, c / 12);
            }
            int parkings = tries % 50 == 49 ? dice.nextInt(9) : 1 + dice.nextInt(6);
            int stations = tries % 50 == 49 ? dice.nextInt(20) : 2 + dice.nextInt(shape < 2 ? 8 : 3);
            if (shape == SNAKE) {
                endSnake(kinds);
            } else {
                scatter(kinds, parkings, FleetFloor.PARKING, shape);
                scatter(kinds, stations, FleetFloor.STATION, shape);
            }
            for (int c = 0; c < 96; c++) {
                model.cell(c, kinds[c]);
                Check.due(name + "cell", floor.cell(c, kinds[c]), true);
            }
            int opened = sameOpen();
            if (opened > 0) {
                return;
            }
        }
        throw new IllegalStateException("no good map was drawn");
    }

    private int ground(int shape, int x, int y) {
        switch (shape) {
            case 0:
                return FleetFloor.FLOOR;
            case 1:
                return dice.nextInt(5) == 0 ? FleetFloor.WALL : FleetFloor.FLOOR;
            case 2:
                return y % 2 == 1 || x == (y % 4 == 0 ? 11 : 0) ? FleetFloor.FLOOR : FleetFloor.WALL;
            case 3:
                return x % 2 == 1 || y == (x % 4 == 0 ? 7 : 0) ? FleetFloor.FLOOR : FleetFloor.WALL;
            case SNAKE:
                return y % 2 == 1 || x == (y % 4 == 0 ? 11 : 0) ? FleetFloor.FLOOR : FleetFloor.WALL;
            default:
                return y == 3 || (x == 3 && dice.nextInt(2) == 0) ? FleetFloor.FLOOR : FleetFloor.WALL;
        }
    }

    /** Parkings over one end of a long corridor and a station in its other end: plans come near the limit. */
    private void endSnake(int[] kinds) {
        int last = 84 + dice.nextInt(6);
        for (int c = last; c < 96; c++) {
            kinds[c] = FleetFloor.WALL;
        }
        kinds[last] = FleetFloor.STATION;
        for (int n = 0; n < 5; n++) {
            kinds[dice.nextInt(11)] = n < 2 ? FleetFloor.STATION : FleetFloor.PARKING;
        }
        for (int n = dice.nextInt(3); n > 0; n--) {
            int bay = 24 + dice.nextInt(11);
            kinds[bay] = kinds[bay] == FleetFloor.WALL ? FleetFloor.PARKING : kinds[bay];
        }
    }

    /** On narrow maps an endpoint in the corridor would shut it, so most go beside it. */
    private void scatter(int[] kinds, int howMany, int kind, int shape) {
        for (int n = 0; n < howMany; n++) {
            int c = dice.nextInt(96);
            for (int tries = 0; tries < 200 && shape > 1 && !isBeside(kinds, c); tries++) {
                c = dice.nextInt(96);
            }
            kinds[c] = kind;
        }
    }

    private boolean isBeside(int[] kinds, int c) {
        if (kinds[c] != FleetFloor.WALL) {
            return false;
        }
        for (int n : FleetFloorModel.neighbours(c)) {
            if (n >= 0 && kinds[n] == FleetFloor.FLOOR) {
                return true;
            }
        }
        return false;
    }

    private int sameOpen() {
        int got;
        try {
            got = floor.open();
        } catch (IllegalArgumentException e) {
            got = ILLEGAL_ARGUMENT;
        } catch (IllegalStateException e) {
            got = ILLEGAL_STATE;
        }
        int want = model.open();
        Check.due(name + "open", got, want);
        return want;
    }

    private void addTask() {
        int many = Math.max(1, model.stations.size());
        sameTask(dice.nextInt(many), dice.nextInt(many));
    }

    private void sameTask(int first, int second) {
        int got;
        try {
            got = floor.task(first, second);
        } catch (IllegalArgumentException e) {
            got = ILLEGAL_ARGUMENT;
        } catch (IllegalStateException e) {
            got = ILLEGAL_STATE;
        }
        due("task(" + first + ", " + second + ")", got, model.task(first, second));
    }

    private void sameTick() {
        int got;
        try {
            got = floor.tick();
        } catch (IllegalStateException e) {
            got = ILLEGAL_STATE;
        }
        due("tick()", got, model.tick());
    }

    /** The more careful, the fewer letters are lost, late or twice. */
    private void useAir(int careful) {
        int many = model.letters();
        if (careful == 3) {
            for (int i = 0; i < many; i++) {
                due("deliver(0)", floor.deliver(0), model.deliver(0));
            }
            return;
        }
        for (int i = 0; i < many; i++) {
            int k = dice.nextInt(model.letters() + 1) - (dice.nextInt(30) == 0 ? 1 : 0);
            int luck = dice.nextInt(10);
            if (luck < 5 + careful) {
                due("deliver(" + k + ")", floor.deliver(k), model.deliver(k));
            } else if (luck < 8) {
                due("twin(" + k + ")", floor.twin(k), model.twin(k));
            } else if (luck < 9) {
                due("lose(" + k + ")", floor.lose(k), model.lose(k));
            }
        }
    }

    private void askNonsense() {
        int a = odd();
        int b = odd();
        int c = odd();
        due("cell", floor.cell(a, b), model.cell(a, b));
        sameOpen();
        if (dice.nextInt(4) == 0) {
            sameTask(a, b);
        }
        due("letter", floor.letter(a, b), model.letter(a, b));
        due("vehicle", floor.vehicle(a, b), model.vehicle(a, b));
        due("move", floor.move(a, b, c), model.move(a, b, c));
        due("taskOf", floor.taskOf(a, b), model.taskOf(a, b));
        due("count", floor.count(a), model.count(a));
        due("twin", floor.twin(a), model.twin(a));
    }

    private int odd() {
        int[] values = {-1, 0, 1, 2, 3, 4, 5, 6, 7, 24, 59, 60, 96, Integer.MAX_VALUE, Integer.MIN_VALUE};
        return values[dice.nextInt(values.length)];
    }

    /** Looks at everything; this counts as no call, since it changes nothing. */
    private void compareAll() {
        String here = name + calls + ", state: ";
        Check.due(here + "letters", floor.letters(), model.letters());
        for (int k = -1; k <= model.letters(); k++) {
            for (int what = -1; what <= 3; what++) {
                Check.due(here + "letter " + k + " " + what, floor.letter(k, what), model.letter(k, what));
            }
        }
        for (int v = -1; v <= model.vehicles.size(); v++) {
            for (int what = -1; what <= 7; what++) {
                Check.due(here + "vehicle " + v + " " + what, floor.vehicle(v, what), model.vehicle(v, what));
            }
            int many = Math.max(0, model.vehicle(v, 5));
            for (int i = -1; i <= many; i++) {
                for (int what = -1; what <= 2; what++) {
                    Check.due(here + "move " + v + " " + i + " " + what, floor.move(v, i, what), model.move(v, i, what));
                }
            }
        }
        for (int task = -1; task <= 24; task++) {
            for (int what = -1; what <= 2; what++) {
                Check.due(here + "taskOf " + task + " " + what, floor.taskOf(task, what), model.taskOf(task, what));
            }
        }
        for (int what = -1; what <= 5; what++) {
            Check.due(here + "count " + what, floor.count(what), model.count(what));
        }
    }
}
