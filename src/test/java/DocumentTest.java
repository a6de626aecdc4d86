import java.io.IOException;
import java.nio.file.Files;
import java.nio.file.Path;
import java.util.Arrays;
import java.util.regex.Matcher;
import java.util.regex.Pattern;
import java.util.stream.Stream;

/** The sentences of the document that name no edge; and whether any words are left that no test quotes. */
public final class DocumentTest extends Floors {
    private static final int LIMIT = 0;
    private static final int DONE = 1;

    private DocumentTest() {
    }

    public static void main(String[] args) throws IOException {
        laterCalls();
        constants();
        endpoints();
        good();
        tasksAreBetweenStations();
        plansAreForIdleVehicles();
        parkedBeforeAndBehind();
        movesHaveCellAndTime();
        serverKnowsWhatItWasTold();
        numbersOfLetters();
        oldestAndLowestGetPlans();
        grantsOfOneTick();
        tasksArrivePending();
        objectsAreApart();
        everyWordIsQuoted();
        Check.end();
    }

    /** What they answer is free, but by LANGUAGE.md they must not throw by themselves. */
    private static void laterCalls() {
        Check.sentence("An object is used for at most 512 calls after it has been made; what later calls answer is free.");
        FleetFloor floor = opened("P.P.P.P.P.P.", "............", "S.S.S.S.S.S.");
        int ended = 0;
        for (int n = 0; n < 4000; n++) {
            task(floor, n % 6, n / 6 % 6);
            tick(floor);
            floor.twin(n % 60);
            if (n % 3 == 0) {
                deliverAll(floor);
            }
            state(floor);
            ended++;
        }
        Check.due("every later call ended", ended, 4000);
    }

    private static void constants() {
        Check.sentence("The constants: `NONE = -1`: None.");
        Check.due("NONE", FleetFloor.NONE, -1);
        Check.sentence("`WALL = 0`, `FLOOR = 1`, `STATION = 2`, `PARKING = 3`: Kinds of cells.");
        Check.due("WALL", FleetFloor.WALL, 0);
        Check.due("FLOOR", FleetFloor.FLOOR, 1);
        Check.due("STATION", FleetFloor.STATION, 2);
        Check.due("PARKING", FleetFloor.PARKING, 3);
        FleetFloor floor = new FleetFloor();
        Check.due("a parking", floor.cell(0, 3), true);
        Check.due("stations", floor.cell(2, 2) && floor.cell(13, 2), true);
        Check.due("floor", floor.cell(1, 1), true);
        Check.due("a wall shuts the way", floor.cell(1, 0), true);
        Check.due("so the map is not good", open(floor), ARGUMENT);
        floor.cell(1, 1);
        Check.due("a good map", open(floor), 1);
        Check.due("with its stations", floor.count(4), 2);
    }

    private static void endpoints() {
        Check.sentence("ENDPOINTS are stations and parkings.");
        String[] kinds = {"S", "P"};
        for (String kind : kinds) {
            Check.due("in the only way of others, " + kind, open(drawn("P." + kind + ".S", "#S###")), ARGUMENT);
            Check.due("without a way, " + kind, open(drawn("P.S#" + kind, "#S###")), ARGUMENT);
            Check.due("with ways, " + kind, open(drawn("P.S", "#.#", "S." + kind)), kind.equals("P") ? 2 : 1);
        }
        Check.due("floor is none and needs no way", open(drawn("P.S#.", "#S###")), 1);
    }

    private static void good() {
        Check.sentence("The map is GOOD if there are 1 .. 6 parkings and 2 .. 16 stations, and between any two "
                + "endpoints goes a way");
        Check.due("as few as can be", open(drawn("SPS", "...")), 1);
        Check.due("as many as can be", open(drawn("P.P.P.P.P.P.", "............", "S.S.S.S.S.S.", "............",
                "S.S.S.S.S.S.", "............", "S.S.S.S.....")), 6);
        Check.due("one more station", open(drawn("P.P.P.P.P.P.", "............", "S.S.S.S.S.S.", "............",
                "S.S.S.S.S.S.", "............", "S.S.S.S.S...")), ARGUMENT);
        Check.due("one more parking", open(drawn("P.P.P.P.P.P.", "............", "P.S.S.S.S.S.")), ARGUMENT);
        Check.due("one without a way", open(drawn("P.P.P.P.P.P.", "............", "S.S.S.S.S.S.", "############",
                "S.S.S.S.S.S.")), ARGUMENT);
    }

    private static void tasksAreBetweenStations() {
        Check.sentence("A TASK is to carry from one station to another.");
        FleetFloor floor = opened("S...S", ".....", "..P..", ".....", "S...S");
        int[] cells = {0, 4, 48, 52};
        for (int n = 0; n < 12; n++) {
            int first = n % 4;
            int second = (first + 1 + n / 4) % 4;
            int begin = floor.vehicle(0, 5);
            Check.due("a task", task(floor, first, second), n);
            run(floor, 24);
            int loaded = nextMoveTo(floor, begin, cells[first]);
            Check.due("task " + n + " comes to its first station", loaded != NONE, true);
            Check.due("then to its second one", nextMoveTo(floor, loaded, cells[second]) != NONE, true);
            Check.due("then home", lastCell(floor, 0), 26);
            Check.due("it is finished", floor.taskOf(n, 1) != NONE, true);
        }
    }

    /** The first move of vehicle 0 to a cell, from a move on. */
    private static int nextMoveTo(FleetFloor floor, int begin, int cell) {
        for (int i = Math.max(0, begin); i < floor.vehicle(0, 5); i++) {
            if (floor.move(0, i, 0) == cell) {
                return i;
            }
        }
        return NONE;
    }

    private static void plansAreForIdleVehicles() {
        Check.sentence("A PLAN is made for an idle vehicle and a task at the PLAN CLOCK s");
        FleetFloor floor = opened(SMALL);
        task(floor, 0, 1);
        tick(floor);
        Check.due("the clock", floor.count(3), 10);
        task(floor, 1, 1);
        task(floor, 1, 1);
        for (int t = 1; t <= 4; t++) {
            tick(floor);
        }
        Check.due("vehicle 0 is not idle and gets no second plan", floor.vehicle(0, 5), 10);
        dueMoves("vehicle 1 is idle", floor, 1, 14, 26, 14, 2);
        dueTimes("its plan begins at the clock, not at the tick", floor, 1, 11, 12, 13, 14);
        Check.due("nobody is idle for the last task", floor.count(0), 1);
        Check.due("so it has no vehicle", floor.taskOf(2, 0), NONE);
    }

    private static void parkedBeforeAndBehind() {
        Check.sentence("(A vehicle is in its parking before its plans and behind them.)");
        FleetFloor floor = opened(SMALL);
        Check.due("vehicle 0 before its first plan", floor.vehicle(0, 0), 0);
        Check.due("vehicle 1 before its first plan", floor.vehicle(1, 0), 2);
        task(floor, 0, 0);
        task(floor, 1, 1);
        run(floor, 12);
        Check.due("vehicle 0 behind its plan", floor.vehicle(0, 0), 0);
        Check.due("vehicle 1 behind its plan", floor.vehicle(1, 0), 2);
        task(floor, 0, 1);
        run(floor, 16);
        task(floor, 1, 1);
        task(floor, 1, 1);
        run(floor, 8);
        Check.due("the third plan of vehicle 0 begins there", floor.move(0, 14, 0), 12);
        Check.due("the second plan of vehicle 1 begins there", floor.move(1, 4, 0), 14);
        Check.due("many times behind its first one", floor.move(1, 4, 1) - floor.move(1, 3, 1) > 10, true);
    }

    private static void movesHaveCellAndTime() {
        Check.sentence("Each has its cell, and its TIME.");
        FleetFloor floor = opened(SMALL);
        task(floor, 0, 1);
        for (int t = 0; t < 12; t++) {
            run(floor, 1);
            dueMoves("before, while and when they are made", floor, 0, 12, 24, 12, 13, 14, 26, 14, 13, 12, 0);
            dueTimes("and their times", floor, 0, 1, 2, 3, 4, 5, 6, 7, 8, 9, 10);
        }
        Check.due("all are made", floor.vehicle(0, 1), 10);
    }

    private static void serverKnowsWhatItWasTold() {
        Check.sentence("THE SERVER knows of each vehicle how many moves it has told to have made (KNOWN).");
        FleetFloor floor = opened(SMALL);
        task(floor, 0, 1);
        tick(floor);
        deliver(floor, LIMIT, 0, 10);
        for (int t = 1; t <= 3; t++) {
            tick(floor);
        }
        dueVehicle("it made three and told none", floor, 0, 12, 3, 10, 0, 10, 10, 0);
        deliver(floor, DONE, 0, 2);
        dueVehicle("it told two", floor, 0, 12, 3, 10, 2, 10, 10, 0);
        Check.due("of another one nothing is known", floor.vehicle(1, 3), 0);
    }

    private static void numbersOfLetters() {
        Check.sentence("LIMIT, to a vehicle: how many moves it is granted. DONE, from a vehicle: how many it has made.");
        FleetFloor floor = opened(crossing(3));
        task(floor, 1, 1);
        task(floor, 0, 0);
        tick(floor);
        dueLetter("DONE of vehicle 0", floor, 0, DONE, 0, 0);
        dueLetter("LIMIT of vehicle 0", floor, 1, LIMIT, 0, floor.vehicle(0, 4));
        dueLetter("LIMIT of vehicle 1", floor, 2, LIMIT, 1, floor.vehicle(1, 4));
        floor.twin(1);
        floor.deliver(3);
        for (int t = 1; t <= 4; t++) {
            tick(floor);
            Check.due("DONE of tick " + t, floor.vehicle(0, 1), t);
        }
        deliver(floor, DONE, 0, 4);
        tick(floor);
        Check.due("vehicle 1 is granted more", floor.vehicle(1, 4), 14);
        dueLetter("an older DONE stays as it was", floor, 0, DONE, 0, 0);
        dueLetter("and so does an older LIMIT", floor, 2, LIMIT, 1, 3);
        dueLetter("the new LIMIT", floor, floor.letters() - 1, LIMIT, 1, 14);
    }

    private static void oldestAndLowestGetPlans() {
        Check.sentence("the oldest pending task and the lowest idle vehicle (IDLE: KNOWN is all its moves) get a plan");
        FleetFloor floor = opened("P.P.P", ".....", "S...S");
        for (int n = 0; n < 3; n++) {
            task(floor, 1, 0);
        }
        runWithoutTheLastDone(floor, 40);
        Check.due("vehicle 0 is home, but not known to be", floor.vehicle(0, 1) - floor.vehicle(0, 3), 1);
        for (int n = 3; n < 6; n++) {
            Check.due("three more tasks", task(floor, n % 2, n % 2), n);
        }
        runWithoutTheLastDone(floor, 4);
        Check.due("the oldest one gets the lowest idle vehicle", floor.taskOf(3, 0), 1);
        Check.due("the next one the next", floor.taskOf(4, 0), 2);
        Check.due("the last one none", floor.taskOf(5, 0), NONE);
        Check.due("its last DONE is sent again", floor.vehicle(0, 3) < floor.vehicle(0, 5), true);
        run(floor, 16);
        Check.due("then the last one gets vehicle 0", floor.taskOf(5, 0), 0);
    }

    /** All letters come, but that by which vehicle 0 tells that it made all its moves. */
    private static void runWithoutTheLastDone(FleetFloor floor, int ticks) {
        for (int t = 0; t < ticks; t++) {
            while (floor.letters() > 0) {
                boolean last = floor.letter(0, 0) == DONE && floor.letter(0, 1) == 0
                        && floor.letter(0, 2) > 0 && floor.letter(0, 2) == floor.vehicle(0, 5);
                Check.due("a letter is there", last ? floor.lose(0) : floor.deliver(0), true);
            }
            tick(floor);
        }
    }

    private static void grantsOfOneTick() {
        Check.sentence("All of 3 ahead of 4; in 4 each sees what was granted to those before it.");
        FleetFloor floor = opened(crossing(3));
        task(floor, 1, 1);
        task(floor, 0, 0);
        tick(floor);
        Check.due("vehicle 0 is granted to leave the crossing", floor.vehicle(0, 4), 18);
        Check.due("that is not to have left it", floor.vehicle(1, 4), 3);
        Check.due("vehicle 1 comes to it by its next move", floor.move(1, 3, 0), 39);
        Check.due("the clock has seen both", floor.count(3), 18);
    }

    private static void tasksArrivePending() {
        Check.sentence("A task (both stations may be one) arrives, pending: its number, from 0 on.");
        FleetFloor floor = opened(SMALL);
        for (int n = 0; n < 6; n++) {
            Check.due("its number", task(floor, n % 2, n / 2 % 2), n);
            Check.due("pending", floor.count(0), n + 1);
            Check.due("without a vehicle", floor.taskOf(n, 0), NONE);
        }
        tick(floor);
        Check.due("two got plans", floor.count(0), 4);
        Check.due("all were six", floor.count(1), 6);
    }

    private static void objectsAreApart() {
        Check.sentence("All walls; not open.");
        FleetFloor alone = opened(FORK);
        String[] due = new String[40];
        for (int t = 0; t < due.length; t++) {
            task(alone, t % 2, 0);
            run(alone, 1);
            due[t] = state(alone);
        }
        FleetFloor one = opened(FORK);
        for (int t = 0; t < due.length; t++) {
            FleetFloor other = new FleetFloor();
            Check.due("a new one is not open", other.count(2), NONE);
            Check.due("and has no map", open(other), ARGUMENT);
            other = opened(SMALL);
            task(other, 1, 0);
            task(one, t % 2, 0);
            run(other, 3);
            run(one, 1);
            Check.due("others change nothing", state(one), due[t]);
        }
    }

    private static void everyWordIsQuoted() throws IOException {
        String text = promisedText();
        boolean[] quoted = new boolean[text.length()];
        try (Stream<Path> files = Files.list(Path.of("src/test/java"))) {
            for (Path file : (Iterable<Path>) files::iterator) {
                markQuotes(Files.readString(file), text, quoted);
            }
        }
        StringBuilder left = new StringBuilder();
        for (int i = 0; i <= text.length(); i++) {
            if (i < text.length() && !quoted[i]) {
                left.append(text.charAt(i));
            } else {
                Check.due("words that no test quotes: " + left, wordsIn(left.toString()) < 2, true);
                left.setLength(0);
            }
        }
    }

    /** What the document promises, without headings, the face (FaceTest looks at it) and what is not promised. */
    private static String promisedText() throws IOException {
        String document = Files.readString(Path.of("../shared/DOC.md"));
        document = document.substring(0, document.indexOf("## Not promised"));
        document = document.replaceAll("(?s)```java.*?```", "").replace("```text", "").replace("```", "");
        document = document.replaceAll("(?m)^(## Promise .*)\n\n`[^`]*`: ", "$1\n");
        return document.replaceAll("(?m)^#.*$", "").replaceAll("\\s+", " ");
    }

    private static void markQuotes(String source, String text, boolean[] quoted) {
        Matcher calls = Pattern.compile("Check\\.sentence\\(((?:\\s*\\+?\\s*\"[^\"]*\")+)\\)").matcher(source);
        while (calls.find()) {
            String words = calls.group(1).replaceAll("\"\\s*\\+\\s*\"", "").trim();
            words = words.substring(1, words.length() - 1);
            for (int at = text.indexOf(words); at >= 0; at = text.indexOf(words, at + 1)) {
                Arrays.fill(quoted, at, at + words.length(), true);
            }
        }
    }

    private static int wordsIn(String text) {
        int words = 0;
        Matcher found = Pattern.compile("\\w+").matcher(text);
        while (found.find()) {
            words++;
        }
        return words;
    }
}
