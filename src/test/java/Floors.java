/** What the tests of single promises and sentences share: floors drawn as texts, and how to ask them. */
abstract class Floors {
    static final int NONE = FleetFloor.NONE;
    static final int ARGUMENT = -2;
    static final int STATE = -3;
    static final int[] FAR = {Integer.MIN_VALUE, -1000, 1000, Integer.MAX_VALUE};

    /** Two parkings over a corridor, two stations under it. */
    static final String[] SMALL = {"P#P", "...", "S#S"};

    /** The lower vehicle's way to station 0 joins the upper one's in cell 1. */
    static final String[] FORK = {"P.S", "#.#", "P.S"};

    /**
     * Two ways round for the last vehicle, each with a STAY: by one it is at the left end of a row when, one
     * time later, by the other it is at the right end of the row above. Found by a search.
     */
    static final String[] RING = {"............", ".###P.####S.", ".S##P.#.###.", ".##########.", ".##########.",
        ".##########.", ".S#########.", "............"};
    static final int[][] RING_TASKS = {{0, 2}, {2, 2}};

    /** The same for the right end of a row and the left end of the row below. Found by a search. */
    static final String[] LADDER = {"####S####P#.", "............", ".####PP#####", "............", "#####S#####.",
        "............", ".P##########", "............"};
    static final int[][] LADDER_TASKS = {{0, 1}, {0, 1}, {0, 1}, {0, 0}};

    /** The last plan must keep clear of a move at the last time but one that a plan has. Found by a search. */
    static final String[] LATE = {"P##.P###S#S.", "...........#", ".######P####", "............", "########P##.",
        "............", ".S######P##P", "............"};
    static final int[][] LATE_TASKS = {{2, 0}, {2, 1}, {0, 0}, {1, 2}, {1, 1}, {1, 0}};

    static FleetFloor drawn(String... rows) {
        FleetFloor floor = new FleetFloor();
        for (int y = 0; y < rows.length; y++) {
            for (int x = 0; x < rows[y].length(); x++) {
                floor.cell(12 * y + x, "#.SP".indexOf(rows[y].charAt(x)));
            }
        }
        return floor;
    }

    static FleetFloor opened(String... rows) {
        FleetFloor floor = drawn(rows);
        Check.due("a good map opens", open(floor) > 0, true);
        return floor;
    }

    static int open(FleetFloor floor) {
        try {
            return floor.open();
        } catch (IllegalArgumentException e) {
            return ARGUMENT;
        } catch (IllegalStateException e) {
            return STATE;
        }
    }

    static int task(FleetFloor floor, int first, int second) {
        try {
            return floor.task(first, second);
        } catch (IllegalArgumentException e) {
            return ARGUMENT;
        } catch (IllegalStateException e) {
            return STATE;
        }
    }

    static int tick(FleetFloor floor) {
        try {
            return floor.tick();
        } catch (IllegalStateException e) {
            return STATE;
        }
    }

    static void run(FleetFloor floor, int ticks) {
        for (int i = 0; i < ticks; i++) {
            deliverAll(floor);
            tick(floor);
        }
    }

    static void deliverAll(FleetFloor floor) {
        for (int i = 0; i < 60 && floor.letters() > 0; i++) {
            Check.due("8 a letter comes", floor.deliver(0), true);
        }
    }

    static void deliverLimits(FleetFloor floor) {
        for (int k = floor.letters() - 1; k >= 0; k--) {
            if (floor.letter(k, 0) == 0) {
                floor.deliver(k);
            } else {
                floor.lose(k);
            }
        }
    }

    static int lastTime(FleetFloor floor, int v) {
        return floor.move(v, floor.vehicle(v, 5) - 1, 1);
    }

    static int lastCell(FleetFloor floor, int v) {
        return floor.move(v, floor.vehicle(v, 5) - 1, 0);
    }

    static boolean comesTo(FleetFloor floor, int v, int cell) {
        for (int i = 0; i < floor.vehicle(v, 5); i++) {
            if (floor.move(v, i, 0) == cell) {
                return true;
            }
        }
        return false;
    }

    /** Where the plans of a vehicle that has made no move yet have it at a time. */
    static int planned(FleetFloor floor, int v, int time) {
        int place = floor.vehicle(v, 0);
        for (int i = 0; i < floor.vehicle(v, 5) && floor.move(v, i, 1) <= time; i++) {
            place = floor.move(v, i, 0);
        }
        return place;
    }

    /** Whether one of the first vehicles comes to a cell where another is at that time or one earlier. */
    static boolean meet(FleetFloor floor, int vehicles) {
        for (int v = 0; v < vehicles; v++) {
            for (int i = 0; i < floor.vehicle(v, 5); i++) {
                for (int u = 0; u < vehicles; u++) {
                    int time = floor.move(v, i, 1);
                    int cell = floor.move(v, i, 0);
                    if (u != v && (planned(floor, u, time) == cell || planned(floor, u, time - 1) == cell)) {
                        return true;
                    }
                }
            }
        }
        return false;
    }

    static void dueLetter(String what, FleetFloor floor, int k, int kind, int vehicle, int number) {
        Check.due(what + ", kind", floor.letter(k, 0), kind);
        Check.due(what + ", vehicle", floor.letter(k, 1), vehicle);
        Check.due(what + ", number", floor.letter(k, 2), number);
    }

    static void dueMoves(String what, FleetFloor floor, int v, int... cells) {
        Check.due(what + ", how many", floor.vehicle(v, 5), cells.length);
        for (int i = 0; i < cells.length; i++) {
            Check.due(what + ", move " + i, floor.move(v, i, 0), cells[i]);
        }
    }

    static void dueVehicle(String what, FleetFloor floor, int v, int... answers) {
        for (int i = 0; i < answers.length; i++) {
            Check.due(what + ", " + i, floor.vehicle(v, i), answers[i]);
        }
    }

    static void dueCounts(String what, FleetFloor floor, int... answers) {
        for (int i = 0; i < answers.length; i++) {
            Check.due(what + ", " + i, floor.count(i), answers[i]);
        }
    }

    /** A corridor so long that the second vehicle must wait for the first one's way back. */
    static String[] snake(String top) {
        return new String[] {top, "............", ".###########", "............", "###########.",
            "............", ".###########", "....S#######"};
    }

    /**
     * Vehicle 0 goes along row 3 to station 1 and is in column x at time x; vehicle 1 goes up column x to
     * station 0 and could be in row 3 at time 4.
     */
    static String[] crossing(int x) {
        String[] rows = new String[8];
        for (int y = 0; y < 8; y++) {
            String place = y == 0 ? "S" : y == 7 ? "P" : ".";
            rows[y] = y == 3 ? "P..........S" : "#".repeat(x) + place;
        }
        return rows;
    }

    /** The time of the first move of a vehicle to a cell. */
    static int comingTime(FleetFloor floor, int v, int cell) {
        for (int i = 0; i < floor.vehicle(v, 5); i++) {
            if (floor.move(v, i, 0) == cell) {
                return floor.move(v, i, 1);
            }
        }
        return NONE;
    }

    /** Lets one letter of this kind come, wherever it lies in the air. */
    static boolean deliver(FleetFloor floor, int kind, int vehicle, int number) {
        for (int k = 0; k < floor.letters(); k++) {
            if (floor.letter(k, 0) == kind && floor.letter(k, 1) == vehicle && floor.letter(k, 2) == number) {
                return floor.deliver(k);
            }
        }
        return false;
    }

    static void loseAll(FleetFloor floor) {
        for (int i = 0; i < 60 && floor.letters() > 0; i++) {
            floor.lose(0);
        }
    }

    /** Twins of letter 0 until so many letters are in the air. */
    static void fillAir(FleetFloor floor, int letters) {
        for (int n = floor.letters(); n < letters; n++) {
            floor.twin(0);
        }
    }

    static void dueTimes(String what, FleetFloor floor, int v, int... times) {
        for (int i = 0; i < times.length; i++) {
            Check.due(what + ", time of move " + i, floor.move(v, i, 1), times[i]);
        }
    }

    /** Everything that a floor answers without being changed, as one text. */
    static String state(FleetFloor floor) {
        StringBuilder text = new StringBuilder();
        for (int what = 0; what <= 4; what++) {
            text.append(floor.count(what)).append(' ');
        }
        for (int v = 0; v < 6; v++) {
            text.append("/ vehicle ");
            for (int what = 0; what <= 6; what++) {
                text.append(floor.vehicle(v, what)).append(' ');
            }
            for (int i = 0; i < floor.vehicle(v, 5); i++) {
                text.append(floor.move(v, i, 0)).append('@').append(floor.move(v, i, 1)).append(' ');
            }
        }
        text.append("/ tasks ");
        for (int n = 0; n < 24; n++) {
            text.append(floor.taskOf(n, 0)).append(':').append(floor.taskOf(n, 1)).append(' ');
        }
        text.append("/ letters ").append(floor.letters()).append(' ');
        for (int k = 0; k < floor.letters(); k++) {
            text.append(floor.letter(k, 0)).append(':').append(floor.letter(k, 1)).append(':')
                    .append(floor.letter(k, 2)).append(' ');
        }
        return text.toString();
    }

    /** Whether each move of a vehicle that has made none yet leads from one neighbour to the next. */
    static boolean goesByNeighbours(FleetFloor floor, int v) {
        int place = floor.vehicle(v, 0);
        for (int i = 0; i < floor.vehicle(v, 5); i++) {
            int next = floor.move(v, i, 0);
            if (Math.abs(place % 12 - next % 12) + Math.abs(place / 12 - next / 12) != 1) {
                return false;
            }
            place = next;
        }
        return true;
    }
}
