/** The promises of DOC.md one by one: ordinary inputs, the edges that the document names, wrong inputs. */
public final class PromisesTest extends Floors {
    private PromisesTest() {
    }

    public static void main(String[] args) {
        promise1NewObject();
        promise2Cell();
        promise3Open();
        promise3Ways();
        promise4Task();
        promise5TickRhythm();
        promise5Plans();
        promise5KeepsClear();
        promise5LongestPlan();
        promise5WhoGetsWhat();
        promise5Grants();
        promise5PlanClock();
        promise6And7Letters();
        promise8Deliver();
        promise9And10LoseAndTwin();
        promise11Vehicle();
        promise12Move();
        promise13TaskOf();
        promise13Finished();
        promise14Count();
        Check.end();
    }

    private static void promise1NewObject() {
        FleetFloor floor = new FleetFloor();
        Check.due("1 tick when new", tick(floor), STATE);
        Check.due("1 task when new", task(floor, 0, 0), STATE);
        Check.due("1 open of all walls", open(floor), ARGUMENT);
        Check.due("1 letters when new", floor.letters(), 0);
        Check.due("1 letter when new", floor.letter(0, 0), NONE);
        Check.due("1 deliver when new", floor.deliver(0), false);
        Check.due("1 lose when new", floor.lose(0), false);
        Check.due("1 twin when new", floor.twin(0), false);
        Check.due("1 vehicle when new", floor.vehicle(0, 0), NONE);
        Check.due("1 move when new", floor.move(0, 0, 0), NONE);
        Check.due("1 taskOf when new", floor.taskOf(0, 0), NONE);
        for (int what = 0; what <= 4; what++) {
            Check.due("1 count when new", floor.count(what), NONE);
        }
        FleetFloor apart = new FleetFloor();
        apart.cell(0, FleetFloor.PARKING);
        apart.cell(24, FleetFloor.STATION);
        apart.cell(48, FleetFloor.STATION);
        Check.due("1 what lies between is wall", open(apart), ARGUMENT);
        Check.due("1 objects are apart", open(opened(SMALL)), STATE);
        Check.due("1 the other one is not open", apart.cell(0, FleetFloor.WALL), true);
    }

    private static void promise2Cell() {
        FleetFloor floor = new FleetFloor();
        for (int kind = 0; kind <= 3; kind++) {
            Check.due("2 first cell", floor.cell(0, kind), true);
            Check.due("2 last cell", floor.cell(95, kind), true);
            Check.due("2 cell -1", floor.cell(-1, kind), false);
            Check.due("2 cell 96", floor.cell(96, kind), false);
            for (int far : FAR) {
                Check.due("2 far cell", floor.cell(far, kind), false);
                Check.due("2 far kind", floor.cell(kind, far), false);
            }
        }
        Check.due("2 kind -1", floor.cell(0, -1), false);
        Check.due("2 kind 4", floor.cell(0, 4), false);

        FleetFloor changed = drawn(SMALL);
        Check.due("2 a cell is shut", changed.cell(13, FleetFloor.WALL), true);
        Check.due("2 the shut map", open(changed), ARGUMENT);
        Check.due("2 a cell is opened again", changed.cell(13, FleetFloor.FLOOR), true);
        Check.due("2 a refused kind changes nothing", changed.cell(13, 4), false);
        Check.due("2 the map again", open(changed), 2);
        Check.due("2 cell when open", changed.cell(13, FleetFloor.WALL), false);
        Check.due("2 the same kind when open", changed.cell(13, FleetFloor.FLOOR), false);
        Check.due("2 no such cell when open", changed.cell(96, FleetFloor.FLOOR), false);
        task(changed, 0, 1);
        tick(changed);
        Check.due("2 the open map stays as it is", changed.move(0, 3, 0), 13);
    }

    private static void promise3Open() {
        Check.due("3 no parking", open(drawn("...", "S.S")), ARGUMENT);
        Check.due("3 one parking", open(drawn("P..", "S.S")), 1);
        Check.due("3 six parkings", open(drawn("PPPPPP", "......", "S....S")), 6);
        Check.due("3 seven parkings", open(drawn("PPPPPPP", ".......", "S.....S")), ARGUMENT);
        Check.due("3 no station", open(drawn("P..")), ARGUMENT);
        Check.due("3 one station", open(drawn("P..", "S..")), ARGUMENT);
        FleetFloor sixteen = drawn("P..........P", "............", "SSSSSSSSSSSS", "############", "############");
        for (int x = 1; x <= 4; x++) {
            sixteen.cell(x, FleetFloor.STATION);
        }
        Check.due("3 sixteen stations", open(sixteen), 2);
        Check.due("3 their number", sixteen.count(4), 16);
        FleetFloor seventeen = drawn("P..........P", "............", "SSSSSSSSSSSS");
        for (int x = 1; x <= 5; x++) {
            seventeen.cell(x, FleetFloor.STATION);
        }
        Check.due("3 seventeen stations", open(seventeen), ARGUMENT);
        Check.due("3 a map that is not good can be mended", seventeen.cell(5, FleetFloor.FLOOR), true);
        Check.due("3 the mended map", open(seventeen), 2);
        Check.due("3 open twice", open(seventeen), STATE);
        Check.due("3 open thrice", open(seventeen), STATE);

        FleetFloor numbered = opened("..P..", ".S.S.", "P...P", ".S...");
        int[] parkings = {2, 24, 28};
        for (int v = 0; v < 3; v++) {
            Check.due("3 vehicles by rising cells", numbered.vehicle(v, 0), parkings[v]);
        }
        task(numbered, 2, 2);
        tick(numbered);
        Check.due("3 stations by rising cells", comesTo(numbered, 0, 37), true);
    }

    private static void promise3Ways() {
        Check.due("3 a way only over a station", open(drawn("PSS")), ARGUMENT);
        Check.due("3 a way only over a parking", open(drawn("SPS")), ARGUMENT);
        Check.due("3 neighbours need no floor", open(drawn("PS", "S.")), 1);
        Check.due("3 three in a bend", open(drawn("PS", "S#")), ARGUMENT);
        Check.due("3 a way round", open(drawn("PSS", "...")), 1);
        Check.due("3 a station apart", open(drawn("P.S#S")), ARGUMENT);
        Check.due("3 corners are no neighbours", open(drawn("P.#", "S.#", "##S")), ARGUMENT);
        Check.due("3 the right edge ends there",
                open(drawn("P.........S.", "#########...", "S###########")), ARGUMENT);
        Check.due("3 row ends are no neighbours",
                open(drawn("PS..........", "S###########")), ARGUMENT);
        Check.due("3 the whole snake", open(drawn("P...........", "###########.", "............", ".###########",
                "............", "###########.", "............", "S##########S")), 1);
        Check.due("3 two floors that an endpoint parts", open(drawn("S.P.S")), ARGUMENT);
        Check.due("3 the halves of the map", open(drawn("############", "############", "############",
                "P.##########", "#.##########", "S.##########", "#S##########")), 1);
    }

    private static void promise4Task() {
        FleetFloor floor = drawn(SMALL);
        Check.due("4 not open", task(floor, 0, 1), STATE);
        Check.due("4 not open, no such station", task(floor, 9, 9), STATE);
        open(floor);
        Check.due("4 station -1 first", task(floor, -1, 0), ARGUMENT);
        Check.due("4 station -1 second", task(floor, 0, -1), ARGUMENT);
        Check.due("4 station 2 first", task(floor, 2, 0), ARGUMENT);
        Check.due("4 station 2 second", task(floor, 0, 2), ARGUMENT);
        for (int far : FAR) {
            Check.due("4 far first", task(floor, far, 0), ARGUMENT);
            Check.due("4 far second", task(floor, 0, far), ARGUMENT);
        }
        Check.due("4 refused tasks are none", floor.count(1), 0);
        for (int n = 0; n < 24; n++) {
            Check.due("4 number", task(floor, n % 2, n % 3 % 2), n);
            Check.due("4 pending", floor.count(0), n + 1);
        }
        Check.due("4 the 25th", task(floor, 0, 1), STATE);
        Check.due("4 the 25th without a station", task(floor, 7, 1), STATE);
        Check.due("4 all tasks", floor.count(1), 24);
        run(floor, 40);
        Check.due("4 the 25th when some are finished", task(floor, 0, 1), STATE);
    }

    private static void promise5TickRhythm() {
        FleetFloor floor = opened("PPPPPP", "......", "S....S");
        for (int t = 0; t < 20; t++) {
            Check.due("5 nobody moves", tick(floor), 0);
            int v = t % 8;
            if (v < 6) {
                Check.due("5 two letters", floor.letters(), 2);
                dueLetter("5 first DONE", floor, 0, 1, v, 0);
                dueLetter("5 then LIMIT", floor, 1, 0, v, 0);
            } else {
                Check.due("5 no letters", floor.letters(), 0);
            }
            deliverAll(floor);
        }
        task(floor, 0, 1);
        Check.due("5 the tick to come", floor.count(2), 20);
        tick(floor);
        Check.due("5 plans when tick % 4 = 0", floor.count(0), 0);
        task(floor, 0, 1);
        for (int t = 21; t < 24; t++) {
            tick(floor);
            Check.due("5 no plans in between", floor.count(0), 1);
        }
        tick(floor);
        Check.due("5 plans four ticks on", floor.count(0), 0);

        FleetFloor both = opened(FORK);
        task(both, 0, 0);
        task(both, 0, 0);
        tick(both);
        Check.due("5 letters of tick 0", both.letters(), 3);
        dueLetter("5 DONE of 0", both, 0, 1, 0, 0);
        dueLetter("5 LIMIT of 0", both, 1, 0, 0, 4);
        dueLetter("5 LIMIT of 1", both, 2, 0, 1, 4);
        deliverAll(both);
        Check.due("5 both move at once", tick(both), 2);
        Check.due("5 letters of tick 1", both.letters(), 3);
        dueLetter("5 0 moved", both, 0, 1, 0, 1);
        dueLetter("5 1 moved in its tick: one DONE", both, 1, 1, 1, 1);
        dueLetter("5 1 in its tick: LIMIT again", both, 2, 0, 1, 4);
    }

    private static void promise5Plans() {
        FleetFloor floor = opened(SMALL);
        task(floor, 0, 1);
        tick(floor);
        dueMoves("5 there and back", floor, 0, 12, 24, 12, 13, 14, 26, 14, 13, 12, 0);
        for (int i = 0; i < 10; i++) {
            Check.due("5 times", floor.move(0, i, 1), i + 1);
        }

        FleetFloor crossing = opened("PSS", "...");
        task(crossing, 1, 1);
        tick(crossing);
        dueMoves("5 over a station, both stations one", crossing, 0, 1, 2, 1, 0);

        FleetFloor wrongOrder = opened("P..", "SS.");
        task(wrongOrder, 1, 0);
        tick(wrongOrder);
        dueMoves("5 the second station ahead of the first counts not", wrongOrder, 0, 1, 13, 12, 0);

        FleetFloor even = opened("S..", "..P", "S..");
        task(even, 0, 0);
        tick(even);
        dueMoves("5 above ahead of left, right ahead of below", even, 0, 2, 1, 0, 1, 2, 14);

        FleetFloor home = opened("...", "S.P", "..S");
        task(home, 0, 1);
        tick(home);
        dueMoves("5 through its own parking", home, 0, 13, 12, 13, 14, 26, 14);

        FleetFloor guarded = opened("P.P.S", ".....", "....S");
        task(guarded, 0, 0);
        tick(guarded);
        dueMoves("5 not over another's parking", guarded, 0, 1, 13, 14, 15, 3, 4, 16, 15, 14, 13, 1, 0);
    }

    private static void promise5KeepsClear() {
        FleetFloor small = opened(SMALL);
        task(small, 0, 1);
        task(small, 1, 0);
        tick(small);
        Check.due("5 the second plan is as long as it must be", small.vehicle(1, 5), 12);
        Check.due("5 it keeps clear", meet(small, 2), false);

        FleetFloor narrow = opened("P##P", "....", "S##S");
        task(narrow, 0, 0);
        task(narrow, 0, 0);
        tick(narrow);
        dueMoves("5 the first one", narrow, 0, 12, 24, 12, 0);
        Check.due("5 into a cell that was left two times ago", lastTime(narrow, 1) > 8, true);
        Check.due("5 it keeps clear there", meet(narrow, 2), false);

        FleetFloor crowd = opened("PPPPPP", "......", "S....S");
        for (int n = 0; n < 6; n++) {
            task(crowd, n % 2, (n + 1) % 2);
        }
        tick(crowd);
        Check.due("5 six at once keep clear", meet(crowd, 6), false);
        for (int v = 0; v < 6; v++) {
            Check.due("5 each ends in its parking", lastCell(crowd, v), v);
        }

        FleetFloor waiting = opened(FORK);
        task(waiting, 0, 0);
        task(waiting, 0, 0);
        tick(waiting);
        dueMoves("5 straight", waiting, 0, 1, 2, 1, 0);
        dueMoves("5 moves are lower than STAY", waiting, 1, 25, 13, 25, 13, 1, 2, 1, 13, 25, 24);
        Check.due("5 cells that others come to", meet(waiting, 2), false);
    }

    private static void promise5LongestPlan() {
        FleetFloor just = opened(snake("P#P####S####"));
        task(just, 0, 1);
        task(just, 0, 1);
        tick(just);
        Check.due("5 a plan may end at s + 150", just.count(0), 0);
        Check.due("5 it ends there", lastTime(just, 1), 150);

        FleetFloor over = opened(snake("P##P###S####"));
        task(over, 0, 1);
        task(over, 0, 1);
        tick(over);
        Check.due("5 no plan may end at s + 151", over.count(0), 1);
        Check.due("5 without a plan nothing", over.vehicle(1, 5), 0);
        Check.due("5 no task without a plan", over.vehicle(1, 6), NONE);
        Check.due("5 no vehicle without a plan", over.taskOf(1, 0), NONE);
        for (int t = 1; t < 5; t++) {
            tick(over);
        }
        Check.due("5 when the clock is on, there is one", over.count(0), 0);
        Check.due("5 from the plan clock on", over.move(1, 0, 1) > 82, true);
    }

    private static void promise5WhoGetsWhat() {
        FleetFloor over = opened(snake("P##P###S####"));
        task(over, 0, 1);
        task(over, 0, 1);
        task(over, 0, 0);
        tick(over);
        Check.due("5 no younger task goes ahead", over.taskOf(2, 0), NONE);
        Check.due("5 both stay pending", over.count(0), 2);

        FleetFloor floor = opened(SMALL);
        for (int n = 0; n < 4; n++) {
            task(floor, 0, 1);
        }
        tick(floor);
        Check.due("5 oldest to lowest", floor.taskOf(0, 0), 0);
        Check.due("5 next to next", floor.taskOf(1, 0), 1);
        Check.due("5 nobody for the third", floor.taskOf(2, 0), NONE);

        FleetFloor silent = opened("P.S", "..S");
        task(silent, 0, 0);
        task(silent, 0, 0);
        tick(silent);
        for (int t = 1; t <= 12; t++) {
            deliverLimits(silent);
            tick(silent);
        }
        Check.due("5 all made", silent.vehicle(0, 1), 4);
        Check.due("5 not idle as long as that is not known", silent.taskOf(1, 0), NONE);
        run(silent, 8);
        Check.due("5 idle when known", silent.taskOf(1, 0), 0);
    }

    private static void promise5Grants() {
        FleetFloor floor = opened(FORK);
        task(floor, 0, 0);
        task(floor, 0, 0);
        tick(floor);
        Check.due("5 the first plan is granted whole", floor.vehicle(0, 4), 4);
        Check.due("5 the second up to the fork", floor.vehicle(1, 4), 4);
        deliverLimits(floor);
        for (int t = 1; t <= 6; t++) {
            Check.due("5 how many move", tick(floor), t <= 4 ? 2 : 0);
            Check.due("5 held back, since nothing is known", floor.vehicle(1, 4), 4);
        }
        dueLetter("5 the first one came to the fork the second time", floor, 5, 1, 0, 3);
        Check.due("5 that comes", floor.deliver(5), true);
        tick(floor);
        Check.due("5 known to be there is not known to have left", floor.vehicle(1, 4), 4);
        dueLetter("5 the first one is home", floor, 6, 1, 0, 4);
        Check.due("5 that comes too", floor.deliver(6), true);
        Check.due("5 it is granted in a tick only", floor.vehicle(1, 4), 4);
        Check.due("5 nobody moves in that tick", tick(floor), 0);
        Check.due("5 all the rest at once", floor.vehicle(1, 4), 10);
        dueLetter("5 LIMIT is sent", floor, floor.letters() - 1, 0, 1, 10);
        Check.due("5 the clock went on", floor.count(3), 10);
    }

    private static void promise5PlanClock() {
        FleetFloor floor = opened("P.S", "..S");
        task(floor, 0, 0);
        task(floor, 0, 0);
        tick(floor);
        Check.due("5 clock", floor.count(3), 4);
        run(floor, 8);
        Check.due("5 the second begins at the clock", floor.move(0, 4, 1), 5);
        Check.due("5 and ends four on", floor.move(0, 7, 1), 8);
        Check.due("5 clock again", floor.count(3), 8);

        FleetFloor both = opened(FORK);
        task(both, 0, 0);
        task(both, 0, 0);
        tick(both);
        Check.due("5 only granted moves tell the clock", both.count(3), 4);
        Check.due("5 others come later", lastTime(both, 1), 10);
    }

    private static void promise6And7Letters() {
        FleetFloor floor = opened(SMALL);
        Check.due("6 none at first", floor.letters(), 0);
        task(floor, 0, 1);
        tick(floor);
        Check.due("6 two", floor.letters(), 2);
        dueLetter("7 DONE", floor, 0, 1, 0, 0);
        dueLetter("7 LIMIT", floor, 1, 0, 0, 10);
        for (int what = 0; what <= 2; what++) {
            Check.due("7 letter -1", floor.letter(-1, what), NONE);
            Check.due("7 letter 2", floor.letter(2, what), NONE);
            for (int far : FAR) {
                Check.due("7 far letter", floor.letter(far, what), NONE);
                Check.due("7 far what", floor.letter(what % 2, far), NONE);
            }
        }
        Check.due("7 what -1", floor.letter(0, -1), NONE);
        Check.due("7 what 3", floor.letter(0, 3), NONE);
        Check.due("6 asking changes nothing", floor.letters(), 2);

        FleetFloor full = opened("PPPPPP", "......", "S....S");
        for (int t = 0; t < 40; t++) {
            tick(full);
        }
        Check.due("6 sixty", full.letters(), 60);
        tick(full);
        Check.due("6 at most sixty", full.letters(), 60);
        Check.due("7 the last is the sixtieth", full.letter(59, 1), 5);
        Check.due("7 there is no 61st", full.letter(60, 0), NONE);
        full.lose(0);
        tick(full);
        Check.due("6 only one found room", full.letters(), 60);
        dueLetter("7 the one that was sent first", full, 59, 1, 1, 0);
    }

    private static void promise8Deliver() {
        FleetFloor floor = opened(SMALL);
        task(floor, 0, 1);
        tick(floor);
        Check.due("8 letter -1", floor.deliver(-1), false);
        Check.due("8 letter 2", floor.deliver(2), false);
        for (int far : FAR) {
            Check.due("8 far letter", floor.deliver(far), false);
        }
        Check.due("8 the later letter first", floor.deliver(1), true);
        Check.due("8 it is gone", floor.letters(), 1);
        dueLetter("8 the other stays", floor, 0, 1, 0, 0);
        Check.due("8 LIMIT came", floor.vehicle(0, 2), 10);
        Check.due("8 no move yet", floor.vehicle(0, 1), 0);
        Check.due("8 a move in the next tick", tick(floor), 1);
        Check.due("8 not known yet", floor.vehicle(0, 3), 0);
        tick(floor);
        tick(floor);
        dueLetter("8 the newest DONE", floor, floor.letters() - 1, 1, 0, 3);
        Check.due("8 the newest comes first", floor.deliver(floor.letters() - 1), true);
        Check.due("8 known", floor.vehicle(0, 3), 3);
        deliverAll(floor);
        Check.due("8 older ones take nothing back", floor.vehicle(0, 3), 3);

        FleetFloor limits = opened(SMALL);
        tick(limits);
        task(limits, 0, 1);
        for (int t = 1; t <= 4; t++) {
            tick(limits);
        }
        int newest = limits.letters() - 1;
        dueLetter("8 the newer LIMIT", limits, newest, 0, 0, 10);
        Check.due("8 it comes", limits.deliver(newest), true);
        dueLetter("8 the older LIMIT", limits, 1, 0, 0, 0);
        Check.due("8 it comes too", limits.deliver(1), true);
        Check.due("8 a lower LIMIT changes nothing", limits.vehicle(0, 2), 10);
    }

    private static void promise9And10LoseAndTwin() {
        FleetFloor floor = opened(SMALL);
        task(floor, 0, 1);
        tick(floor);
        int[] wrong = {-1, 2, FAR[0], FAR[1], FAR[2], FAR[3]};
        for (int k : wrong) {
            Check.due("9 no such letter", floor.lose(k), false);
            Check.due("10 no such letter", floor.twin(k), false);
        }
        Check.due("9, 10 nothing happened", floor.letters(), 2);
        Check.due("10 a twin of the first", floor.twin(0), true);
        Check.due("10 three now", floor.letters(), 3);
        dueLetter("10 the twin is the last", floor, 2, 1, 0, 0);
        dueLetter("10 the first stays", floor, 0, 1, 0, 0);
        dueLetter("10 so does the second", floor, 1, 0, 0, 10);
        Check.due("9 the second is lost", floor.lose(1), true);
        Check.due("9 two again", floor.letters(), 2);
        Check.due("9 what is lost never came", floor.vehicle(0, 2), 0);
        Check.due("9 nobody moves", tick(floor), 0);
        for (int t = 2; t <= 8; t++) {
            Check.due("9 nobody moves", tick(floor), 0);
        }
        dueLetter("5 LIMIT is sent again", floor, floor.letters() - 1, 0, 0, 10);
        for (int n = floor.letters(); n < 60; n++) {
            Check.due("10 a twin of the first", floor.twin(0), true);
        }
        Check.due("10 no twin beside sixty", floor.twin(0), false);
        Check.due("10 sixty", floor.letters(), 60);
        Check.due("9 the sixtieth", floor.lose(59), true);
        Check.due("9 it is gone", floor.lose(59), false);
        Check.due("10 room again", floor.twin(58), true);
    }

    private static void promise11Vehicle() {
        FleetFloor floor = drawn(SMALL);
        Check.due("11 not open", floor.vehicle(0, 0), NONE);
        open(floor);
        int[] atFirst = {0, 0, 0, 0, 0, 0, NONE};
        dueVehicle("11 at first", floor, 0, atFirst);
        atFirst[0] = 2;
        dueVehicle("11 the other at first", floor, 1, atFirst);
        for (int what = 0; what <= 6; what++) {
            Check.due("11 vehicle -1", floor.vehicle(-1, what), NONE);
            Check.due("11 vehicle 2", floor.vehicle(2, what), NONE);
            for (int far : FAR) {
                Check.due("11 far vehicle", floor.vehicle(far, what), NONE);
            }
        }
        Check.due("11 what -1", floor.vehicle(0, -1), NONE);
        Check.due("11 what 7", floor.vehicle(0, 7), NONE);
        task(floor, 0, 1);
        Check.due("11 a pending task is not in hand", floor.vehicle(0, 6), NONE);
        tick(floor);
        dueVehicle("11 with a plan", floor, 0, 0, 0, 0, 0, 10, 10, 0);
        deliverAll(floor);
        dueVehicle("11 with its LIMIT", floor, 0, 0, 0, 10, 0, 10, 10, 0);
        tick(floor);
        tick(floor);
        dueVehicle("11 after two moves", floor, 0, 24, 2, 10, 0, 10, 10, 0);
        floor.deliver(0);
        dueVehicle("11 a DONE came", floor, 0, 24, 2, 10, 1, 10, 10, 0);
        run(floor, 20);
        dueVehicle("11 home", floor, 0, 0, 10, 10, 10, 10, 10, 0);
        task(floor, 1, 1);
        run(floor, 8);
        Check.due("11 the next task", floor.vehicle(0, 6), 1);
    }

    private static void promise12Move() {
        FleetFloor floor = drawn(SMALL);
        Check.due("12 not open", floor.move(0, 0, 0), NONE);
        open(floor);
        Check.due("12 no moves yet", floor.move(0, 0, 0), NONE);
        task(floor, 0, 1);
        task(floor, 1, 0);
        tick(floor);
        Check.due("12 the first one's cell", floor.move(0, 0, 0), 12);
        Check.due("12 the first one's time", floor.move(0, 0, 1), 1);
        Check.due("12 the last one's cell", floor.move(0, 9, 0), 0);
        Check.due("12 the last one's time", floor.move(0, 9, 1), 10);
        Check.due("12 a move that is not granted", floor.move(1, 11, 0), 2);
        for (int what = 0; what <= 1; what++) {
            Check.due("12 move -1", floor.move(0, -1, what), NONE);
            Check.due("12 move 10", floor.move(0, 10, what), NONE);
            Check.due("12 vehicle -1", floor.move(-1, 0, what), NONE);
            Check.due("12 vehicle 2", floor.move(2, 0, what), NONE);
            for (int far : FAR) {
                Check.due("12 far move", floor.move(0, far, what), NONE);
                Check.due("12 far vehicle", floor.move(far, 0, what), NONE);
                Check.due("12 far what", floor.move(0, 0, far), NONE);
            }
        }
        Check.due("12 what -1", floor.move(0, 0, -1), NONE);
        Check.due("12 what 2", floor.move(0, 0, 2), NONE);
    }

    private static void promise13TaskOf() {
        FleetFloor floor = opened(SMALL);
        Check.due("13 no task yet", floor.taskOf(0, 0), NONE);
        task(floor, 0, 1);
        Check.due("13 pending: no vehicle", floor.taskOf(0, 0), NONE);
        Check.due("13 pending: no tick", floor.taskOf(0, 1), NONE);
        tick(floor);
        Check.due("13 its vehicle", floor.taskOf(0, 0), 0);
        Check.due("13 not finished", floor.taskOf(0, 1), NONE);
        for (int what = 0; what <= 1; what++) {
            Check.due("13 task -1", floor.taskOf(-1, what), NONE);
            Check.due("13 task 1", floor.taskOf(1, what), NONE);
            for (int far : FAR) {
                Check.due("13 far task", floor.taskOf(far, what), NONE);
                Check.due("13 far what", floor.taskOf(0, far), NONE);
            }
        }
        Check.due("13 what -1", floor.taskOf(0, -1), NONE);
        Check.due("13 what 2", floor.taskOf(0, 2), NONE);
    }

    private static void promise13Finished() {
        FleetFloor floor = opened(SMALL);
        task(floor, 0, 1);
        tick(floor);
        for (int t = 1; t <= 5; t++) {
            run(floor, 1);
            Check.due("13 not finished under way", floor.taskOf(0, 1), NONE);
        }
        run(floor, 1);
        Check.due("13 finished at the second station", floor.taskOf(0, 1), 6);
        run(floor, 20);
        Check.due("13 that stays", floor.taskOf(0, 1), 6);
        Check.due("13 so does its vehicle", floor.taskOf(0, 0), 0);

        FleetFloor wrongOrder = opened("P..", "SS.");
        task(wrongOrder, 1, 0);
        run(wrongOrder, 4);
        Check.due("13 the second station behind the first", wrongOrder.taskOf(0, 1), 3);

        FleetFloor passing = opened("P.S.S", ".....");
        task(passing, 1, 0);
        run(passing, 1);
        Check.due("13 the way goes over the second station first", passing.move(0, 1, 0), 2);
        run(passing, 4);
        Check.due("13 that does not finish it", passing.taskOf(0, 1), NONE);
        run(passing, 2);
        Check.due("13 coming there again does", passing.taskOf(0, 1), 6);

        FleetFloor one = opened("P.S", "..S");
        task(one, 0, 0);
        run(one, 8);
        Check.due("13 both stations one: at once", one.taskOf(0, 1), 2);
    }

    private static void promise14Count() {
        FleetFloor floor = drawn(FORK);
        for (int what = -1; what <= 5; what++) {
            Check.due("14 not open", floor.count(what), NONE);
        }
        open(floor);
        dueCounts("14 at first", floor, 0, 0, 0, 0, 2);
        Check.due("14 what -1", floor.count(-1), NONE);
        Check.due("14 what 5", floor.count(5), NONE);
        for (int far : FAR) {
            Check.due("14 far what", floor.count(far), NONE);
        }
        task(floor, 0, 0);
        task(floor, 0, 0);
        task(floor, 0, 0);
        dueCounts("14 with tasks", floor, 3, 3, 0, 0, 2);
        tick(floor);
        dueCounts("14 with plans", floor, 1, 3, 1, 4, 2);
        run(floor, 60);
        Check.due("14 none pending", floor.count(0), 0);
        Check.due("14 all tasks", floor.count(1), 3);
        Check.due("14 ticks", floor.count(2), 61);
    }
}
