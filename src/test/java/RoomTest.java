import java.lang.management.ManagementFactory;

/** The dearest runs that could be thought of stay far below the room that all calls of a run share. */
public final class RoomTest {
    private static final int CALLS = 512;
    /** 7.3 million fields and elements are some 40 million bytes; a twentieth of that is plenty. */
    private static final long BYTES = 2_000_000;

    private RoomTest() {
    }

    public static void main(String[] args) {
        due("a busy floor", RoomTest::busyFloor);
        due("a map that is never good", RoomTest::badMap);
        due("searches without a plan", RoomTest::noPlan);
        Check.end();
    }

    private static void due(String what, Runnable run) {
        com.sun.management.ThreadMXBean meter =
                (com.sun.management.ThreadMXBean) ManagementFactory.getThreadMXBean();
        long thread = Thread.currentThread().getId();
        run.run();
        long before = meter.getThreadAllocatedBytes(thread);
        run.run();
        long used = meter.getThreadAllocatedBytes(thread) - before;
        System.out.println(what + ": " + used + " bytes");
        Check.due(what + " stays small", used < BYTES, true);
    }

    private static FleetFloor wide() {
        FleetFloor floor = new FleetFloor();
        for (int c = 0; c < 96; c++) {
            int kind = FleetFloor.FLOOR;
            if (c < 12 && c % 2 == 0) {
                kind = FleetFloor.PARKING;
            } else if (c >= 84) {
                kind = FleetFloor.STATION;
            }
            floor.cell(c, kind);
        }
        return floor;
    }

    private static void busyFloor() {
        FleetFloor floor = wide();
        floor.open();
        for (int n = 0; n < 24; n++) {
            floor.task(n % 12, (n * 7 + 5) % 12);
        }
        for (int i = 121; i < CALLS; i++) {
            floor.tick();
            while (floor.deliver(0)) {
                i++;
            }
        }
    }

    private static void badMap() {
        FleetFloor floor = wide();
        floor.cell(71, FleetFloor.WALL);
        floor.cell(82, FleetFloor.WALL);
        floor.cell(83, FleetFloor.WALL);
        floor.cell(94, FleetFloor.WALL);
        for (int i = 100; i < CALLS; i++) {
            try {
                floor.open();
                Check.due("the map is not good", false, true);
            } catch (IllegalArgumentException e) {
                continue;
            }
        }
    }

    private static void noPlan() {
        FleetFloor floor = new FleetFloor();
        String[] rows = {"PPPPPPS#####", "............", ".###########", "............", "###########.",
            "............", ".###########", "...........S"};
        for (int c = 0; c < 96; c++) {
            floor.cell(c, "#.SP".indexOf(rows[c / 12].charAt(c % 12)));
        }
        floor.open();
        for (int n = 0; n < 24; n++) {
            floor.task(1, 1);
        }
        for (int i = 121; i < CALLS; i++) {
            floor.tick();
        }
        Check.due("there was no plan", floor.count(0), 22);
    }
}
