import java.util.ArrayDeque;
import java.util.ArrayList;
import java.util.HashSet;
import java.util.List;
import java.util.Set;

/**
 * The document once more, as slow and as near to its words as can be: whole plans are kept, time by
 * time, and a plan is found by going through all ways in the order of their moves.
 */
final class FleetFloorModel {
    static final int NONE = -1;

    record Plan(int start, int[] places) {
        int end() {
            return start + places.length - 1;
        }
    }

    record Step(int place, int time) {
    }

    record Letter(int kind, int vehicle, int number) {
    }

    static final class Vehicle {
        int parking;
        List<Plan> plans = new ArrayList<>();
        List<Step> steps = new ArrayList<>();
        int made;
        int may;
        int known;
        int granted;
        int task = NONE;
        int finishingStep = NONE;

        int placeAt(int time) {
            for (Plan plan : plans) {
                if (time >= plan.start() && time <= plan.end()) {
                    int place = plan.places()[time - plan.start()];
                    if (place != parking) {
                        return place;
                    }
                }
            }
            return parking;
        }

        boolean comesAt(int time, int place) {
            return placeAt(time) == place && placeAt(time - 1) != place;
        }
    }

    static final class Task {
        int first;
        int second;
        int vehicle = NONE;
        int finished = NONE;
    }

    final int[] kinds = new int[96];
    boolean opened;
    final List<Vehicle> vehicles = new ArrayList<>();
    final List<Integer> stations = new ArrayList<>();
    final List<Task> tasks = new ArrayList<>();
    final List<Letter> air = new ArrayList<>();
    int tick;
    int clock;

    /** What the runs met, so that a test can tell that they met it. */
    static int plansMade;
    static int plansMissing;
    static int staysPlanned;
    static int grantsHeldBack;
    static int lettersDropped;
    static int finishes;

    static List<Integer> neighbours(int cell) {
        int x = cell % 12;
        int y = cell / 12;
        List<Integer> found = new ArrayList<>();
        found.add(y == 0 ? NONE : cell - 12);
        found.add(x == 11 ? NONE : cell + 1);
        found.add(y == 7 ? NONE : cell + 12);
        found.add(x == 0 ? NONE : cell - 1);
        return found;
    }

    boolean cell(int cell, int kind) {
        if (opened || cell < 0 || cell > 95 || kind < 0 || kind > 3) {
            return false;
        }
        kinds[cell] = kind;
        return true;
    }

    boolean isGood() {
        List<Integer> ends = new ArrayList<>();
        int parkings = 0;
        for (int c = 0; c < 96; c++) {
            if (kinds[c] >= 2) {
                ends.add(c);
            }
            if (kinds[c] == 3) {
                parkings++;
            }
        }
        int others = ends.size() - parkings;
        if (parkings < 1 || parkings > 6 || others < 2 || others > 16) {
            return false;
        }
        for (int a : ends) {
            for (int b : ends) {
                if (a != b && !hasWay(a, b)) {
                    return false;
                }
            }
        }
        return true;
    }

    private boolean hasWay(int from, int to) {
        Set<Integer> seen = new HashSet<>();
        ArrayDeque<Integer> todo = new ArrayDeque<>();
        seen.add(from);
        todo.add(from);
        while (!todo.isEmpty()) {
            for (int n : neighbours(todo.remove())) {
                if (n == to) {
                    return true;
                }
                if (n != NONE && kinds[n] == 1 && seen.add(n)) {
                    todo.add(n);
                }
            }
        }
        return false;
    }

    /** How many vehicles; -2 stands for the illegal argument, -3 for the illegal state. */
    int open() {
        if (opened) {
            return -3;
        }
        if (!isGood()) {
            return -2;
        }
        for (int c = 0; c < 96; c++) {
            if (kinds[c] == 2) {
                stations.add(c);
            }
            if (kinds[c] == 3) {
                Vehicle vehicle = new Vehicle();
                vehicle.parking = c;
                vehicles.add(vehicle);
            }
        }
        opened = true;
        return vehicles.size();
    }

    int task(int first, int second) {
        if (!opened || tasks.size() == 24) {
            return -3;
        }
        if (first < 0 || first >= stations.size() || second < 0 || second >= stations.size()) {
            return -2;
        }
        Task task = new Task();
        task.first = stations.get(first);
        task.second = stations.get(second);
        tasks.add(task);
        return tasks.size() - 1;
    }

    int tick() {
        if (!opened) {
            return -3;
        }
        boolean[] moved = new boolean[vehicles.size()];
        int count = 0;
        for (int v = 0; v < vehicles.size(); v++) {
            Vehicle one = vehicles.get(v);
            if (one.made < one.may) {
                if (one.made == one.finishingStep) {
                    tasks.get(one.task).finished = tick;
                    finishes++;
                }
                one.made++;
                moved[v] = true;
                count++;
            }
        }
        for (int v = 0; v < vehicles.size(); v++) {
            if (moved[v] || tick % 8 == v % 8) {
                send(new Letter(1, v, vehicles.get(v).made));
            }
        }
        if (tick % 4 == 0) {
            plan();
        }
        for (int v = 0; v < vehicles.size(); v++) {
            grant(v);
        }
        tick++;
        return count;
    }

    private void send(Letter letter) {
        if (air.size() < 60) {
            air.add(letter);
        } else {
            lettersDropped++;
        }
    }

    private void plan() {
        while (true) {
            Task oldest = null;
            int number = 0;
            for (int n = tasks.size() - 1; n >= 0; n--) {
                if (tasks.get(n).vehicle == NONE) {
                    oldest = tasks.get(n);
                    number = n;
                }
            }
            int lowest = NONE;
            for (int v = vehicles.size() - 1; v >= 0; v--) {
                if (vehicles.get(v).known == vehicles.get(v).steps.size()) {
                    lowest = v;
                }
            }
            if (oldest == null || lowest == NONE) {
                return;
            }
            int[] places = search(lowest, oldest);
            if (places == null) {
                plansMissing++;
                return;
            }
            take(lowest, number, places);
        }
    }

    private void take(int v, int number, int[] places) {
        plansMade++;
        Vehicle one = vehicles.get(v);
        Task task = tasks.get(number);
        task.vehicle = v;
        one.task = number;
        one.finishingStep = NONE;
        one.plans.add(new Plan(clock, places));
        boolean first = false;
        boolean second = false;
        for (int t = 1; t < places.length; t++) {
            if (places[t] != places[t - 1]) {
                one.steps.add(new Step(places[t], clock + t));
            } else {
                staysPlanned++;
            }
            first = first || places[t] == task.first;
            if (first && !second && places[t] == task.second) {
                second = true;
                one.finishingStep = one.steps.size() - 1;
            }
        }
    }

    private static final class Node {
        Node before;
        int place;
        int leg;
    }

    /**
     * All ways time by time. Nodes of one time stand in the order of their lowest moves, so the first
     * way that comes to a place on a leg is the lowest one there.
     */
    private int[] search(int v, Task task) {
        Vehicle one = vehicles.get(v);
        List<Node> now = new ArrayList<>();
        Node start = new Node();
        start.place = one.parking;
        now.add(start);
        for (int t = clock + 1; t <= clock + 150; t++) {
            boolean[] seen = new boolean[96 * 3];
            List<Node> next = new ArrayList<>();
            Node goal = null;
            for (Node node : now) {
                for (int m = 0; m < 5; m++) {
                    int place = m == 4 ? node.place : neighbours(node.place).get(m);
                    if (place == NONE || !mayStep(v, node.place, place, t)) {
                        continue;
                    }
                    int leg = node.leg;
                    if (leg == 0 && place == task.first) {
                        leg = 1;
                    }
                    if (leg == 1 && place == task.second) {
                        leg = 2;
                    }
                    if (!seen[leg * 96 + place]) {
                        seen[leg * 96 + place] = true;
                        Node added = new Node();
                        added.before = node;
                        added.place = place;
                        added.leg = leg;
                        next.add(added);
                        if (leg == 2 && place == one.parking) {
                            goal = added;
                        }
                    }
                }
            }
            if (goal != null) {
                int[] places = new int[t - clock + 1];
                Node node = goal;
                for (int i = places.length - 1; i >= 0; i--) {
                    places[i] = node.place;
                    node = node.before;
                }
                return places;
            }
            now = next;
        }
        return null;
    }

    private boolean mayStep(int v, int from, int to, int t) {
        if (kinds[to] == 0) {
            return false;
        }
        for (int u = 0; u < vehicles.size(); u++) {
            if (u == v) {
                continue;
            }
            Vehicle other = vehicles.get(u);
            if (other.parking == to) {
                return false;
            }
            if (from != to && (other.placeAt(t) == to || other.placeAt(t - 1) == to)) {
                return false;
            }
            if (other.comesAt(t, to) || other.comesAt(t, from)) {
                return false;
            }
        }
        return true;
    }

    private void grant(int v) {
        Vehicle one = vehicles.get(v);
        boolean any = false;
        while (one.granted < one.steps.size() && canGrant(v, one.steps.get(one.granted))) {
            clock = Math.max(clock, one.steps.get(one.granted).time());
            one.granted++;
            any = true;
        }
        if (one.granted < one.steps.size()) {
            grantsHeldBack++;
        }
        if (any || tick % 8 == v % 8) {
            send(new Letter(0, v, one.granted));
        }
    }

    private boolean canGrant(int v, Step step) {
        for (int u = 0; u < vehicles.size(); u++) {
            Vehicle other = vehicles.get(u);
            for (int j = 0; u != v && j < other.steps.size(); j++) {
                Step earlier = other.steps.get(j);
                if (earlier.place() == step.place() && earlier.time() < step.time() && other.known <= j + 1) {
                    return false;
                }
            }
        }
        return true;
    }

    int letters() {
        return air.size();
    }

    int letter(int k, int what) {
        if (k < 0 || k >= air.size() || what < 0 || what > 2) {
            return NONE;
        }
        Letter letter = air.get(k);
        return what == 0 ? letter.kind() : what == 1 ? letter.vehicle() : letter.number();
    }

    boolean deliver(int k) {
        if (k < 0 || k >= air.size()) {
            return false;
        }
        Letter letter = air.remove(k);
        Vehicle one = vehicles.get(letter.vehicle());
        if (letter.kind() == 0) {
            one.may = Math.max(one.may, letter.number());
        } else {
            one.known = Math.max(one.known, letter.number());
        }
        return true;
    }

    boolean lose(int k) {
        if (k < 0 || k >= air.size()) {
            return false;
        }
        air.remove(k);
        return true;
    }

    boolean twin(int k) {
        if (k < 0 || k >= air.size() || air.size() >= 60) {
            return false;
        }
        air.add(air.get(k));
        return true;
    }

    int vehicle(int v, int what) {
        if (v < 0 || v >= vehicles.size() || what < 0 || what > 6) {
            return NONE;
        }
        Vehicle one = vehicles.get(v);
        int place = one.made == 0 ? one.parking : one.steps.get(one.made - 1).place();
        int[] answers = {place, one.made, one.may, one.known, one.granted, one.steps.size(), one.task};
        return answers[what];
    }

    int move(int v, int i, int what) {
        if (v < 0 || v >= vehicles.size() || i < 0 || i >= vehicles.get(v).steps.size() || what < 0 || what > 1) {
            return NONE;
        }
        Step step = vehicles.get(v).steps.get(i);
        return what == 0 ? step.place() : step.time();
    }

    int taskOf(int task, int what) {
        if (task < 0 || task >= tasks.size() || what < 0 || what > 1) {
            return NONE;
        }
        return what == 0 ? tasks.get(task).vehicle : tasks.get(task).finished;
    }

    int count(int what) {
        if (!opened || what < 0 || what > 4) {
            return NONE;
        }
        int pending = 0;
        for (Task task : tasks) {
            pending += task.vehicle == NONE ? 1 : 0;
        }
        int[] answers = {pending, tasks.size(), tick, clock, stations.size()};
        return answers[what];
    }
}
