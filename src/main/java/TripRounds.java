import java.util.Arrays;

/**
 * Trips of a town: a table of trips between zones, their modes, and the streets that they take.
 * All rows are made with the object and used again, so that no call makes anything.
 */
public final class TripRounds {
    public static final int NONE = -1;

    private static final int MOST_NODES = 12;
    private static final int MOST_ZONES = 6;
    private static final int MOST_STREETS = 40;
    private static final int PAIRS = MOST_ZONES * MOST_ZONES;
    private static final int MODES = 3;

    private static final int MOST_SIZE = 100000;
    private static final int MOST_FREE = 1000;
    private static final int MOST_SLOPE = 1000;
    private static final int MOST_ROOM = 1000000;
    private static final int MOST_TOLL = 1000;
    private static final int MOST_WEIGHT = 1000;
    private static final int MOST_PULL = 1000;
    private static final int MOST_COUNT = 1000000;
    private static final int MOST_TRIPS = 1000000;
    private static final int MOST_TIME = 1000000;

    private static final int FIRST_FACTOR = 1000;
    private static final int MOST_FACTOR = 1000000;
    private static final int MOST_ROUNDS = 50;
    private static final int MOST_PARTS = 8;
    private static final int MOST_FITS = 20;

    private int nodes;
    private final Zones zones;
    private final Table table;
    private final Modes modes;
    private final Streets streets;
    private final Ways ways;
    private final Assignment latest;

    public TripRounds() {
        nodes = 0;
        zones = new Zones();
        table = new Table();
        modes = new Modes();
        streets = new Streets();
        ways = new Ways();
        latest = new Assignment();
    }

    public int node() throws IllegalStateException {
        if (nodes >= MOST_NODES) {
            throw new IllegalStateException("there are 12 nodes");
        }
        return nodes++;
    }

    public int zone(int node, int people, int jobs) throws IllegalArgumentException, IllegalStateException {
        needNode(node);
        needWithin(people, 0, MOST_SIZE);
        needWithin(jobs, 0, MOST_SIZE);
        if (zones.many >= MOST_ZONES) {
            throw new IllegalStateException("there are 6 zones");
        }
        return zones.addZone(node, people, jobs);
    }

    public int street(int from, int to, int free, int slope, int room)
            throws IllegalArgumentException, IllegalStateException {
        needNode(from);
        needNode(to);
        if (from == to) {
            throw new IllegalArgumentException("both nodes are one");
        }
        needWithin(free, 1, MOST_FREE);
        needWithin(slope, 0, MOST_SLOPE);
        needWithin(room, 1, MOST_ROOM);
        if (streets.many >= MOST_STREETS) {
            throw new IllegalStateException("there are 40 streets");
        }
        return streets.addStreet(from, to, free, slope, room);
    }

    public int toll(int street, int v) throws IllegalArgumentException {
        needStreet(street);
        needWithin(v, 0, MOST_TOLL);
        int was = streets.tolls[street];
        streets.tolls[street] = v;
        return was;
    }

    public boolean open(int street, boolean is) throws IllegalArgumentException {
        needStreet(street);
        boolean was = streets.isOpen[street];
        streets.isOpen[street] = is;
        return was;
    }

    public int weight(int from, int to, int v) throws IllegalArgumentException {
        needZone(from);
        needZone(to);
        needWithin(v, 0, MOST_WEIGHT);
        int pair = pairOf(from, to);
        int was = table.weights[pair];
        table.weights[pair] = v;
        return was;
    }

    public int size(int zone, int what, int v) throws IllegalArgumentException {
        needZone(zone);
        needWithin(what, 0, 1);
        needWithin(v, 0, MOST_SIZE);
        int[] sizes = what == 0 ? zones.people : zones.jobs;
        int was = sizes[zone];
        sizes[zone] = v;
        return was;
    }

    public int rounds(int most, int by) throws IllegalArgumentException {
        needWithin(most, 1, MOST_ROUNDS);
        needWithin(by, 0, MOST_SIZE);
        return table.goRounds(zones, most, by);
    }

    public int trips(int from, int to) throws IllegalArgumentException {
        needZone(from);
        needZone(to);
        return table.cells[pairOf(from, to)];
    }

    public int sum(int zone, int side) throws IllegalArgumentException {
        needZone(zone);
        needWithin(side, 0, 1);
        return side == 0 ? table.sumFrom(zone) : table.sumTo(zone);
    }

    public int factor(int zone) throws IllegalArgumentException {
        needZone(zone);
        return table.factors[zone];
    }

    public int pull(int mode, int from, int to, int v) throws IllegalArgumentException {
        needWithin(mode, 0, MODES - 1);
        needZone(from);
        needZone(to);
        needWithin(v, 0, MOST_PULL);
        int place = Modes.placeOf(mode, pairOf(from, to));
        int was = modes.pulls[place];
        modes.pulls[place] = v;
        return was;
    }

    public int chosen(int mode, int from, int to) throws IllegalArgumentException {
        needWithin(mode, 0, MODES - 1);
        needZone(from);
        needZone(to);
        int pair = pairOf(from, to);
        return modes.tripsBy(mode, pair, table.cells[pair]);
    }

    public int assign(int n) throws IllegalArgumentException {
        needWithin(n, 1, MOST_PARTS);
        assignAll(n);
        return latest.lost;
    }

    public int flow(int street, int what) throws IllegalArgumentException {
        needStreet(street);
        needWithin(what, 0, 1);
        return what == 0 ? streets.volumes[street] : streets.timeOf(street);
    }

    public int way(int from, int to, int k) throws IllegalArgumentException {
        needNode(from);
        needNode(to);
        if (k < 0) {
            throw new IllegalArgumentException("k is below 0");
        }
        ways.holdTimes(streets);
        ways.aimAt(to, streets);
        return ways.streetAt(k, from, streets);
    }

    public int least(int from, int to) throws IllegalArgumentException {
        needNode(from);
        needNode(to);
        ways.holdTimes(streets);
        ways.aimAt(to, streets);
        return ways.timeFrom(from);
    }

    public int link(int street, int from, int to) throws IllegalArgumentException {
        needStreet(street);
        needZone(from);
        needZone(to);
        return latest.used[Assignment.placeOf(street, pairOf(from, to))];
    }

    public long gap() {
        ways.holdTimes(streets);
        long all = 0;
        for (int s = 0; s < streets.many; s++) {
            all += (long) streets.volumes[s] * ways.times[s];
        }
        for (int to = 0; to < zones.many; to++) {
            ways.aimAt(zones.places[to], streets);
            all -= leastTimeTo(to);
        }
        return all;
    }

    public int count(int street, int v) throws IllegalArgumentException {
        needStreet(street);
        needWithin(v, NONE, MOST_COUNT);
        int was = streets.counts[street];
        streets.counts[street] = v;
        return was;
    }

    public int fit(int n) throws IllegalArgumentException, IllegalStateException {
        needWithin(n, 1, MOST_FITS);
        if (latest.parts == 0) {
            throw new IllegalStateException("nothing was assigned");
        }
        for (int done = 0; done < n; done++) {
            int street = streets.farthestFromCount();
            if (street == NONE || streets.volumes[street] == 0) {
                return done;
            }
            scaleUsersOf(street);
            assignAll(latest.parts);
        }
        return n;
    }

    private void needNode(int node) {
        if (node < 0 || node >= nodes) {
            throw new IllegalArgumentException("there is no such node");
        }
    }

    private void needZone(int zone) {
        if (zone < 0 || zone >= zones.many) {
            throw new IllegalArgumentException("there is no such zone");
        }
    }

    private void needStreet(int street) {
        if (street < 0 || street >= streets.many) {
            throw new IllegalArgumentException("there is no such street");
        }
    }

    private static void needWithin(int v, int lowest, int highest) {
        if (v < lowest || v > highest) {
            throw new IllegalArgumentException("a number is out of its bounds");
        }
    }

    private static int pairOf(int from, int to) {
        return from * MOST_ZONES + to;
    }

    private void assignAll(int parts) {
        latest.begin(parts);
        Arrays.fill(streets.volumes, 0);
        gatherDrivers();
        for (int part = 0; part < parts; part++) {
            assignPart(part);
        }
    }

    private void gatherDrivers() {
        for (int from = 0; from < zones.many; from++) {
            for (int to = 0; to < zones.many; to++) {
                int pair = pairOf(from, to);
                latest.drivers[pair] = from == to ? 0 : modes.tripsBy(0, pair, table.cells[pair]);
            }
        }
    }

    private void assignPart(int part) {
        // The volumes grow while the part goes, but its ways are those of its beginning.
        ways.holdTimes(streets);
        for (int to = 0; to < zones.many; to++) {
            ways.aimAt(zones.places[to], streets);
            for (int from = 0; from < zones.many; from++) {
                int pair = pairOf(from, to);
                latest.send(pair, latest.tripsOfPart(pair, part), zones.places[from], ways, streets);
            }
        }
    }

    private long leastTimeTo(int to) {
        long all = 0;
        for (int from = 0; from < zones.many; from++) {
            int time = ways.timeFrom(zones.places[from]);
            if (time != NONE) {
                all += (long) latest.went[pairOf(from, to)] * time;
            }
        }
        return all;
    }

    private void scaleUsersOf(int street) {
        long volume = streets.volumes[street];
        if (volume == 0) {
            return;
        }
        for (int pair = 0; pair < PAIRS; pair++) {
            if (latest.used[Assignment.placeOf(street, pair)] > 0) {
                long scaled = (long) table.cells[pair] * streets.counts[street] / volume;
                table.cells[pair] = (int) Math.min(scaled, MOST_TRIPS);
            }
        }
    }

    /** The zones, each with its node and its sizes. */
    private static final class Zones {
        int many;
        final int[] places;
        final int[] people;
        final int[] jobs;

        Zones() {
            many = 0;
            places = new int[MOST_ZONES];
            people = new int[MOST_ZONES];
            jobs = new int[MOST_ZONES];
        }

        int addZone(int place, int dwellers, int posts) {
            places[many] = place;
            people[many] = dwellers;
            jobs[many] = posts;
            return many++;
        }
    }

    /** Shares a number in others; the rows belong to one owner, who fills and reads them around each sharing. */
    private static final class Sharing {
        final long[] numbers;
        final long[] rests;
        final int[] shares;

        Sharing(int most) {
            numbers = new long[most];
            rests = new long[most];
            shares = new int[most];
        }

        void shareOut(int n, int many) {
            long all = 0;
            for (int i = 0; i < many; i++) {
                all += numbers[i];
            }
            if (all == 0) {
                Arrays.fill(shares, 0);
                return;
            }
            int left = n;
            for (int i = 0; i < many; i++) {
                long product = n * numbers[i];
                shares[i] = (int) (product / all);
                rests[i] = product % all;
                left -= shares[i];
            }
            for (int given = 0; given < left; given++) {
                giveOne(many);
            }
        }

        private void giveOne(int many) {
            int greatest = 0;
            for (int i = 1; i < many; i++) {
                if (rests[i] > rests[greatest]) {
                    greatest = i;
                }
            }
            shares[greatest]++;
            // Less than any rest, so that nobody gets a second one.
            rests[greatest] = -1;
        }
    }

    /** The table of trips, with what its rounds need. */
    private static final class Table {
        final int[] weights;
        final int[] cells;
        final int[] factors;
        final Sharing sharing;

        Table() {
            weights = new int[PAIRS];
            cells = new int[PAIRS];
            factors = new int[MOST_ZONES];
            sharing = new Sharing(MOST_ZONES);
            Arrays.fill(weights, 1);
            Arrays.fill(factors, NONE);
        }

        int goRounds(Zones zones, int most, int by) {
            for (int j = 0; j < zones.many; j++) {
                factors[j] = FIRST_FACTOR;
            }
            for (int round = 1; round <= most; round++) {
                shareAllPeople(zones);
                if (isMet(zones, by)) {
                    return round;
                }
                // Behind the last round they stay as they were used in it.
                if (round < most) {
                    changeFactors(zones);
                }
            }
            return -most;
        }

        private void shareAllPeople(Zones zones) {
            for (int i = 0; i < zones.many; i++) {
                for (int j = 0; j < zones.many; j++) {
                    sharing.numbers[j] = (long) weights[pairOf(i, j)] * factors[j];
                }
                sharing.shareOut(zones.people[i], zones.many);
                for (int j = 0; j < zones.many; j++) {
                    cells[pairOf(i, j)] = sharing.shares[j];
                }
            }
        }

        private boolean isMet(Zones zones, int by) {
            for (int j = 0; j < zones.many; j++) {
                if (Math.abs(sumTo(j) - zones.jobs[j]) > by) {
                    return false;
                }
            }
            return true;
        }

        private void changeFactors(Zones zones) {
            for (int j = 0; j < zones.many; j++) {
                int arriving = sumTo(j);
                // Without trips there is nothing to divide by: such a factor stays.
                if (arriving > 0) {
                    long changed = (long) factors[j] * zones.jobs[j] / arriving;
                    factors[j] = (int) Math.max(1, Math.min(changed, MOST_FACTOR));
                }
            }
        }

        int sumFrom(int zone) {
            int all = 0;
            for (int j = 0; j < MOST_ZONES; j++) {
                all += cells[pairOf(zone, j)];
            }
            return all;
        }

        int sumTo(int zone) {
            int all = 0;
            for (int i = 0; i < MOST_ZONES; i++) {
                all += cells[pairOf(i, zone)];
            }
            return all;
        }
    }

    /** How the trips of a pair of zones are shared in modes. */
    private static final class Modes {
        final int[] pulls;
        final Sharing sharing;

        Modes() {
            pulls = new int[MODES * PAIRS];
            sharing = new Sharing(MODES);
            for (int pair = 0; pair < PAIRS; pair++) {
                pulls[placeOf(0, pair)] = MOST_PULL;
            }
        }

        static int placeOf(int mode, int pair) {
            return mode * PAIRS + pair;
        }

        int tripsBy(int mode, int pair, int all) {
            for (int m = 0; m < MODES; m++) {
                sharing.numbers[m] = pulls[placeOf(m, pair)];
            }
            sharing.shareOut(all, MODES);
            return sharing.shares[mode];
        }
    }

    /** The streets, with what is told of them and how full they are. */
    private static final class Streets {
        int many;
        final int[] starts;
        final int[] ends;
        final int[] frees;
        final int[] slopes;
        final int[] rooms;
        final int[] tolls;
        final boolean[] isOpen;
        final int[] counts;
        final int[] volumes;

        Streets() {
            many = 0;
            starts = new int[MOST_STREETS];
            ends = new int[MOST_STREETS];
            frees = new int[MOST_STREETS];
            slopes = new int[MOST_STREETS];
            rooms = new int[MOST_STREETS];
            tolls = new int[MOST_STREETS];
            isOpen = new boolean[MOST_STREETS];
            counts = new int[MOST_STREETS];
            volumes = new int[MOST_STREETS];
            // Never 0, as it divides.
            Arrays.fill(rooms, 1);
            Arrays.fill(counts, NONE);
        }

        int addStreet(int start, int end, int free, int slope, int room) {
            starts[many] = start;
            ends[many] = end;
            frees[many] = free;
            slopes[many] = slope;
            rooms[many] = room;
            isOpen[many] = true;
            return many++;
        }

        int timeOf(int street) {
            long slowing = (long) slopes[street] * volumes[street] / rooms[street];
            return (int) Math.min(frees[street] + slowing + tolls[street], MOST_TIME);
        }

        int farthestFromCount() {
            int farthest = NONE;
            int most = 0;
            for (int s = 0; s < many; s++) {
                int off = counts[s] == NONE ? 0 : Math.abs(volumes[s] - counts[s]);
                if (off > most) {
                    farthest = s;
                    most = off;
                }
            }
            return farthest;
        }
    }

    /** The least ways from all nodes to one, over times that are held still. */
    private static final class Ways {
        // A cost is a time and, below it, the number of streets, so that both are compared at once;
        // a least way has fewer streets than there are nodes.
        private static final long ONE_TIME = 64;
        // More than any cost.
        private static final long NO_WAY = 1L << 40;

        final int[] times;
        final long[] costs;
        final int[] nexts;

        Ways() {
            times = new int[MOST_STREETS];
            costs = new long[MOST_NODES];
            nexts = new int[MOST_NODES];
        }

        void holdTimes(Streets streets) {
            for (int s = 0; s < streets.many; s++) {
                times[s] = streets.timeOf(s);
            }
        }

        void aimAt(int target, Streets streets) {
            Arrays.fill(costs, NO_WAY);
            costs[target] = 0;
            boolean changed = true;
            for (int pass = 0; pass < MOST_NODES && changed; pass++) {
                changed = lowerCosts(streets);
            }
            chooseNexts(streets);
        }

        private boolean lowerCosts(Streets streets) {
            boolean changed = false;
            for (int s = 0; s < streets.many; s++) {
                long cost = costBy(s, streets);
                if (cost < costs[streets.starts[s]]) {
                    costs[streets.starts[s]] = cost;
                    changed = true;
                }
            }
            return changed;
        }

        private void chooseNexts(Streets streets) {
            Arrays.fill(nexts, NONE);
            for (int s = 0; s < streets.many; s++) {
                int start = streets.starts[s];
                long cost = costBy(s, streets);
                // Of several that are as good the first that comes is the least.
                if (nexts[start] == NONE && cost != NO_WAY && cost == costs[start]) {
                    nexts[start] = s;
                }
            }
        }

        private long costBy(int street, Streets streets) {
            long onward = costs[streets.ends[street]];
            if (!streets.isOpen[street] || onward == NO_WAY) {
                return NO_WAY;
            }
            return onward + times[street] * ONE_TIME + 1;
        }

        int timeFrom(int node) {
            return costs[node] == NO_WAY ? NONE : (int) (costs[node] / ONE_TIME);
        }

        int streetAt(int k, int from, Streets streets) {
            int street = nexts[from];
            for (int step = 0; step < k && step < MOST_NODES && street != NONE; step++) {
                street = nexts[streets.ends[street]];
            }
            return street;
        }
    }

    /** The latest assignment: who went, and on which streets. */
    private static final class Assignment {
        int parts;
        int lost;
        final int[] drivers;
        final int[] went;
        final int[] used;

        Assignment() {
            parts = 0;
            lost = 0;
            drivers = new int[PAIRS];
            went = new int[PAIRS];
            used = new int[MOST_STREETS * PAIRS];
        }

        static int placeOf(int street, int pair) {
            return street * PAIRS + pair;
        }

        void begin(int inParts) {
            parts = inParts;
            lost = 0;
            Arrays.fill(went, 0);
            Arrays.fill(used, 0);
        }

        int tripsOfPart(int pair, int part) {
            if (parts == 0) {
                return 0;
            }
            long all = drivers[pair];
            return (int) (all * (part + 1) / parts - all * part / parts);
        }

        void send(int pair, int some, int from, Ways ways, Streets streets) {
            if (ways.timeFrom(from) == NONE) {
                lost += some;
                return;
            }
            went[pair] += some;
            int street = ways.nexts[from];
            for (int step = 0; step < MOST_NODES && street != NONE; step++) {
                streets.volumes[street] += some;
                used[placeOf(street, pair)] += some;
                street = ways.nexts[streets.ends[street]];
            }
        }
    }
}
