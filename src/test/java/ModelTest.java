import java.util.Random;

/** Runs of mixed calls, right and wrong ones, on the program and on the naive town side by side. */
public final class ModelTest {
    private static final int RUNS = 600;
    private static final int CALLS = 250;
    private static final Check CHECK = new Check();
    private static final String ARGUMENT = "IllegalArgumentException";
    private static final String STATE = "IllegalStateException";

    private final Random random;
    private final TripRounds x = new TripRounds();
    private final NaiveTown town = new NaiveTown();
    private final int mostNodes;
    private final boolean narrow;
    private final int run;
    private int call;

    private ModelTest(int run) {
        this.run = run;
        // The seed is the run's number: each run is the same every time.
        random = new Random(run);
        mostNodes = run % 10 == 0 ? 12 : 2 + random.nextInt(6);
        narrow = random.nextBoolean();
    }

    public static void main(String[] args) {
        for (int run = 0; run < RUNS; run++) {
            ModelTest test = new ModelTest(run);
            for (test.call = 0; test.call < CALLS; test.call++) {
                test.oneCall();
            }
        }
        CHECK.end();
    }

    private interface Answer {
        long get();
    }

    /** Compares, where wrong names the exception that is due, or is null for an answer. */
    private boolean compare(String text, String wrong, Answer got, Answer due) {
        String was;
        try {
            was = "" + got.get();
        } catch (RuntimeException e) {
            was = e.getClass().getSimpleName();
        }
        String should = wrong != null ? wrong : "" + due.get();
        CHECK.same("run " + run + ", call " + call + ": " + text + " answered " + was + ", due is " + should + ", so",
                1, was.equals(should) ? 1 : 0);
        return wrong == null;
    }

    private int near(int lowest, int highest) {
        int kind = random.nextInt(60);
        if (kind == 0) {
            return lowest - 1;
        }
        if (kind == 1) {
            return highest + 1;
        }
        if (kind < 5) {
            return kind % 2 == 0 ? lowest : highest;
        }
        // Small numbers make ties.
        long most = narrow && random.nextInt(4) != 0 ? Math.min(highest, lowest + 6L) : highest;
        return lowest + random.nextInt((int) (most - lowest + 1));
    }

    private int some(int many) {
        return many == 0 || random.nextInt(80) == 0 ? random.nextInt(2) == 0 ? -1 : many : random.nextInt(many);
    }

    private static boolean in(int v, int lowest, int highest) {
        return v >= lowest && v <= highest;
    }

    private static String argument(boolean... right) {
        for (boolean r : right) {
            if (!r) {
                return ARGUMENT;
            }
        }
        return null;
    }

    private boolean isNode(int n) {
        return in(n, 0, town.nodes - 1);
    }

    private boolean isZone(int z) {
        return in(z, 0, town.zones.size() - 1);
    }

    private boolean isStreet(int s) {
        return in(s, 0, town.streets.size() - 1);
    }

    private void oneCall() {
        if (call < 60) {
            build();
            return;
        }
        switch (random.nextInt(6)) {
            case 0 -> build();
            case 1, 2 -> change();
            case 3 -> work();
            case 4 -> askTable();
            default -> askStreets();
        }
    }

    private void build() {
        int kind = random.nextInt(8);
        if (town.nodes < mostNodes && kind < 4 || mostNodes == 12 && kind == 0) {
            String wrong = town.nodes < 12 ? null : STATE;
            if (compare("node", wrong, x::node, () -> town.nodes)) {
                town.nodes++;
            }
        } else if (kind < 2) {
            buildZone(some(town.nodes), near(0, 100000), near(0, 100000));
        } else {
            buildStreet(some(town.nodes), some(town.nodes), near(1, 1000), near(0, 1000), near(1, 1000000));
        }
    }

    private void buildZone(int node, int people, int jobs) {
        String wrong = argument(isNode(node), in(people, 0, 100000), in(jobs, 0, 100000));
        if (wrong == null && town.zones.size() == 6) {
            wrong = STATE;
        }
        if (compare("zone", wrong, () -> x.zone(node, people, jobs), () -> town.zones.size())) {
            town.sizes[0][town.zones.size()] = people;
            town.sizes[1][town.zones.size()] = jobs;
            town.zones.add(node);
        }
    }

    private void buildStreet(int from, int to, int free, int slope, int room) {
        String wrong = argument(isNode(from), isNode(to), from != to, in(free, 1, 1000), in(slope, 0, 1000),
                in(room, 1, 1000000));
        // All ways through a town of many streets are too many to walk.
        if (wrong == null && mostNodes > 7 && town.streets.size() == 24) {
            return;
        }
        if (wrong == null && town.streets.size() == 40) {
            wrong = STATE;
        }
        if (compare("street", wrong, () -> x.street(from, to, free, slope, room), () -> town.streets.size())) {
            NaiveTown.Street s = new NaiveTown.Street();
            s.from = from;
            s.to = to;
            s.free = free;
            s.slope = slope;
            s.room = room;
            town.streets.add(s);
        }
    }

    private void change() {
        switch (random.nextInt(6)) {
            case 0 -> changeToll(some(town.streets.size()), near(0, 1000));
            case 1 -> changeOpen(some(town.streets.size()), random.nextInt(3) != 0);
            case 2 -> changeWeight(some(town.zones.size()), some(town.zones.size()), near(0, 1000));
            case 3 -> changeSize(some(town.zones.size()), near(0, 1), near(0, 100000));
            case 4 -> changePull(near(0, 2), some(town.zones.size()), some(town.zones.size()), near(0, 1000));
            default -> changeCount(some(town.streets.size()), near(-1, 1000000));
        }
    }

    private void changeToll(int s, int v) {
        if (compare("toll", argument(isStreet(s), in(v, 0, 1000)), () -> x.toll(s, v),
                () -> town.streets.get(s).toll)) {
            town.streets.get(s).toll = v;
        }
    }

    private void changeOpen(int s, boolean is) {
        if (compare("open", argument(isStreet(s)), () -> x.open(s, is) ? 1 : 0,
                () -> town.streets.get(s).open ? 1 : 0)) {
            town.streets.get(s).open = is;
        }
    }

    private void changeWeight(int i, int j, int v) {
        if (compare("weight", argument(isZone(i), isZone(j), in(v, 0, 1000)), () -> x.weight(i, j, v),
                () -> town.weights[i][j])) {
            town.weights[i][j] = v;
        }
    }

    private void changeSize(int z, int what, int v) {
        if (compare("size", argument(isZone(z), in(what, 0, 1), in(v, 0, 100000)), () -> x.size(z, what, v),
                () -> town.sizes[what][z])) {
            town.sizes[what][z] = v;
        }
    }

    private void changePull(int m, int i, int j, int v) {
        if (compare("pull", argument(in(m, 0, 2), isZone(i), isZone(j), in(v, 0, 1000)), () -> x.pull(m, i, j, v),
                () -> town.pulls[i][j][m])) {
            town.pulls[i][j][m] = v;
        }
    }

    private void changeCount(int s, int v) {
        if (compare("count", argument(isStreet(s), in(v, -1, 1000000)), () -> x.count(s, v),
                () -> town.streets.get(s).count)) {
            town.streets.get(s).count = v;
        }
    }

    private void work() {
        int kind = random.nextInt(3);
        if (kind == 0) {
            int most = near(1, 50);
            int by = near(0, 100000);
            compare("rounds", argument(in(most, 1, 50), in(by, 0, 100000)), () -> x.rounds(most, by),
                    () -> town.rounds(most, by));
        } else if (kind == 1) {
            int n = near(1, 8);
            compare("assign", argument(in(n, 1, 8)), () -> x.assign(n), () -> town.assign(n));
        } else {
            int n = near(1, 20);
            String wrong = argument(in(n, 1, 20));
            if (wrong == null && town.parts == 0) {
                wrong = STATE;
            }
            compare("fit", wrong, () -> x.fit(n), () -> town.fit(n));
        }
    }

    private void askTable() {
        int i = some(town.zones.size());
        int j = some(town.zones.size());
        int side = near(0, 1);
        int mode = near(0, 2);
        switch (random.nextInt(4)) {
            case 0 -> compare("trips", argument(isZone(i), isZone(j)), () -> x.trips(i, j), () -> town.trips[i][j]);
            case 1 -> compare("sum", argument(isZone(i), in(side, 0, 1)), () -> x.sum(i, side),
                    () -> town.sum(i, side));
            case 2 -> compare("factor", argument(isZone(i)), () -> x.factor(i), () -> town.factors[i]);
            default -> compare("chosen", argument(in(mode, 0, 2), isZone(i), isZone(j)), () -> x.chosen(mode, i, j),
                    () -> town.chosen(mode, i, j));
        }
    }

    private void askStreets() {
        int s = some(town.streets.size());
        int i = some(town.nodes);
        int j = some(town.nodes);
        int what = near(0, 1);
        int k = random.nextInt(6) - (random.nextInt(30) == 0 ? 6 : 0);
        switch (random.nextInt(5)) {
            case 0 -> compare("flow", argument(isStreet(s), in(what, 0, 1)), () -> x.flow(s, what),
                    () -> what == 0 ? town.streets.get(s).volume : town.streets.get(s).time());
            case 1 -> compare("way", argument(isNode(i), isNode(j), k >= 0), () -> x.way(i, j, k),
                    () -> town.way(i, j, k));
            case 2 -> compare("least", argument(isNode(i), isNode(j)), () -> x.least(i, j), () -> town.least(i, j));
            case 3 -> askLink(s, some(town.zones.size()), some(town.zones.size()));
            default -> compare("gap", null, x::gap, town::gap);
        }
    }

    private void askLink(int s, int i, int j) {
        compare("link", argument(isStreet(s), isZone(i), isZone(j)), () -> x.link(s, i, j), () -> town.used[s][i][j]);
    }
}
