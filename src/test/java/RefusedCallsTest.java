import java.util.ArrayList;
import java.util.List;

/**
 * Each refused call, made ahead of every call of a long run where the document refuses it: it answers as
 * due and changes nothing, and every call behind it answers as on a floor that was spared it.
 */
public final class RefusedCallsTest extends Floors {
    private static final int[] CELLS = {0, 2, 12, 13, 14, 24, 26};
    private static final int[] KINDS = {3, 3, 1, 1, 1, 2, 2};

    private interface Call {
        long on(FleetFloor floor);
    }

    private interface Moment {
        boolean isNow(FleetFloor floor, int step);
    }

    private static final Moment ALWAYS = (floor, step) -> true;
    private static final Moment CLOSED = (floor, step) -> !isOpen(floor);
    private static final Moment NOT_GOOD = (floor, step) -> !isOpen(floor) && step < CELLS.length;
    private static final Moment OPEN = (floor, step) -> isOpen(floor);
    private static final Moment ROOM_FOR_TASKS = (floor, step) -> isOpen(floor) && floor.count(1) < 24;
    private static final Moment ALL_TASKS = (floor, step) -> floor.count(1) == 24;
    private static final Moment EMPTY_AIR = (floor, step) -> floor.letters() == 0;
    private static final Moment FULL_AIR = (floor, step) -> floor.letters() == 60;

    private static final List<Call> RUN = ordinaryRun();

    private RefusedCallsTest() {
    }

    public static void main(String[] args) {
        cells();
        opens();
        tasks();
        ticks();
        letters();
        questions();
        Check.end();
    }

    private static boolean isOpen(FleetFloor floor) {
        return floor.count(2) != NONE;
    }

    private static void cells() {
        Check.sentence("false, refused, when the floor is open");
        refused("a wall", OPEN, floor -> asNumber(floor.cell(13, FleetFloor.WALL)), 0);
        refused("a parking", OPEN, floor -> asNumber(floor.cell(25, FleetFloor.PARKING)), 0);
        refused("a station", OPEN, floor -> asNumber(floor.cell(1, FleetFloor.STATION)), 0);
        Check.sentence("or there is no such cell or kind");
        refused("cell -1", ALWAYS, floor -> asNumber(floor.cell(-1, FleetFloor.PARKING)), 0);
        refused("cell 96", ALWAYS, floor -> asNumber(floor.cell(96, FleetFloor.PARKING)), 0);
        refused("kind -1", ALWAYS, floor -> asNumber(floor.cell(13, -1)), 0);
        refused("kind 4", ALWAYS, floor -> asNumber(floor.cell(13, 4)), 0);
    }

    private static void opens() {
        Check.sentence("IllegalArgumentException, when the map is not GOOD");
        refused("open", NOT_GOOD, floor -> open(floor), ARGUMENT);
        Check.sentence("IllegalStateException, when it is open already");
        refused("open", OPEN, floor -> open(floor), STATE);
    }

    private static void tasks() {
        Check.sentence("IllegalStateException, when the floor is not open, or there were 24");
        refused("a task when not open", CLOSED, floor -> task(floor, 0, 1), STATE);
        refused("the 25th", ALL_TASKS, floor -> task(floor, 0, 1), STATE);
        refused("the 25th without a station", ALL_TASKS, floor -> task(floor, 2, 1), STATE);
        Check.sentence("otherwise IllegalArgumentException, when there is no such station");
        refused("first -1", ROOM_FOR_TASKS, floor -> task(floor, -1, 0), ARGUMENT);
        refused("first 2", ROOM_FOR_TASKS, floor -> task(floor, 2, 0), ARGUMENT);
        refused("second -1", ROOM_FOR_TASKS, floor -> task(floor, 0, -1), ARGUMENT);
        refused("second 2", ROOM_FOR_TASKS, floor -> task(floor, 0, 2), ARGUMENT);
    }

    private static void ticks() {
        Check.sentence("IllegalStateException, when the floor is not open.");
        refused("tick", CLOSED, floor -> tick(floor), STATE);
    }

    private static void letters() {
        Check.sentence("and is gone: true; false when there is none such.");
        refused("deliver one too low", ALWAYS, floor -> asNumber(floor.deliver(-1)), 0);
        refused("deliver one too high", ALWAYS, floor -> asNumber(floor.deliver(floor.letters())), 0);
        refused("deliver in empty air", EMPTY_AIR, floor -> asNumber(floor.deliver(0)), 0);
        Check.sentence("Letter k is gone: true; false when there is none such.");
        refused("lose one too low", ALWAYS, floor -> asNumber(floor.lose(-1)), 0);
        refused("lose one too high", ALWAYS, floor -> asNumber(floor.lose(floor.letters())), 0);
        refused("lose in empty air", EMPTY_AIR, floor -> asNumber(floor.lose(0)), 0);
        Check.sentence("A letter like letter k is sent: true; false when there is none such, or there are 60.");
        refused("twin one too low", ALWAYS, floor -> asNumber(floor.twin(-1)), 0);
        refused("twin one too high", ALWAYS, floor -> asNumber(floor.twin(floor.letters())), 0);
        refused("twin in empty air", EMPTY_AIR, floor -> asNumber(floor.twin(0)), 0);
        refused("twin of the first of sixty", FULL_AIR, floor -> asNumber(floor.twin(0)), 0);
        refused("twin of the last of sixty", FULL_AIR, floor -> asNumber(floor.twin(59)), 0);
    }

    private static void questions() {
        Check.sentence("NONE, when there is none such, or what.");
        refused("letter one too high", ALWAYS, floor -> floor.letter(floor.letters(), 0), NONE);
        refused("letter one too low", ALWAYS, floor -> floor.letter(-1, 0), NONE);
        refused("letter, what 3", ALWAYS, floor -> floor.letter(0, 3), NONE);
        Check.sentence("NONE, when the floor is not open, or there is no such vehicle or what.");
        refused("vehicle when not open", CLOSED, floor -> floor.vehicle(0, 0), NONE);
        refused("vehicle 2", ALWAYS, floor -> floor.vehicle(2, 0), NONE);
        refused("vehicle, what 7", ALWAYS, floor -> floor.vehicle(0, 7), NONE);
        Check.sentence("NONE, when the floor is not open, or there is none such, or what.");
        refused("move when not open", CLOSED, floor -> floor.move(0, 0, 0), NONE);
        refused("move one too high", OPEN, floor -> floor.move(0, floor.vehicle(0, 5), 0), NONE);
        refused("move, what 2", ALWAYS, floor -> floor.move(0, 0, 2), NONE);
        Check.sentence("NONE when not yet, or there is no such task or what.");
        refused("task one too high", OPEN, floor -> floor.taskOf(floor.count(1), 0), NONE);
        refused("task -1", ALWAYS, floor -> floor.taskOf(-1, 1), NONE);
        refused("task, what 2", ALWAYS, floor -> floor.taskOf(0, 2), NONE);
        Check.sentence("NONE for another what, or when the floor is not open.");
        refused("count when not open", CLOSED, floor -> floor.count(4), NONE);
        refused("count, what 5", ALWAYS, floor -> floor.count(5), NONE);
        refused("count, what -1", ALWAYS, floor -> floor.count(-1), NONE);
    }

    private static long asNumber(boolean answer) {
        return answer ? 1 : 0;
    }

    private static void refused(String what, Moment moment, Call call, long answer) {
        FleetFloor floor = new FleetFloor();
        FleetFloor spared = new FleetFloor();
        int times = 0;
        for (int step = 0; step < RUN.size(); step++) {
            if (moment.isNow(floor, step)) {
                times++;
                String before = state(floor);
                Check.due(what + ", ahead of step " + step, call.on(floor), answer);
                Check.due(what + ", state ahead of step " + step, state(floor), before);
            }
            Check.due(what + ", step " + step, RUN.get(step).on(floor), RUN.get(step).on(spared));
            Check.due(what + ", state behind step " + step, state(floor), state(spared));
        }
        Check.due(what + " was made", times > 0, true);
    }

    /** A floor that is drawn, opened and used until its tasks and its air have been empty and full. */
    private static List<Call> ordinaryRun() {
        List<Call> run = new ArrayList<>();
        for (int i = 0; i < CELLS.length; i++) {
            int cell = CELLS[i];
            int kind = KINDS[i];
            run.add(floor -> asNumber(floor.cell(cell, kind)));
        }
        run.add(floor -> open(floor));
        for (int n = 0; n < 24; n++) {
            int first = n % 2;
            int second = n / 2 % 2;
            run.add(floor -> task(floor, first, second));
            addUse(run, n);
        }
        for (int n = 0; n < 68; n++) {
            run.add(n % 9 == 0 ? floor -> tick(floor) : floor -> asNumber(floor.twin(floor.letters() / 2)));
        }
        for (int n = 0; n < 60; n++) {
            run.add(floor -> asNumber(floor.deliver(0)));
            addUse(run, n);
        }
        return run;
    }

    private static void addUse(List<Call> run, int n) {
        run.add(floor -> tick(floor));
        run.add(floor -> asNumber(floor.deliver(floor.letters() - 1)));
        if (n % 5 == 4) {
            run.add(floor -> asNumber(floor.lose(0)));
        } else if (n % 7 == 6) {
            run.add(floor -> asNumber(floor.twin(0)));
        } else {
            run.add(floor -> asNumber(floor.deliver(0)));
        }
    }
}
