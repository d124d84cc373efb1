/** Promises 15 to 22: ways, assignment, the gap, counts and fitting. */
public final class StreetsTest {
    private static final Check CHECK = new Check();

    public static void main(String[] args) {
        assignInParts();
        assignByTimesOfTheBeginning();
        assignLost();
        assignOnlyDrivers();
        assignAnew();
        flows();
        ways();
        waysByTimeNow();
        leastTimes();
        links();
        gaps();
        gapOfNow();
        counts();
        fitting();
        fitLooksAtTheFarthest();
        fitInParts();
        fitBounds();
        fitGreat();
        fitEnds();
        fitWrong();
        CHECK.end();
    }

    private static void assignInParts() {
        TripRounds x = Towns.pair(2, 5);
        x.street(0, 1, 1, 10, 1);
        x.street(0, 1, 5, 0, 1);
        CHECK.same("15: all at once", 0, x.assign(1));
        CHECK.same("15: on the quickest", 5, x.flow(0, 0));
        CHECK.same("15: in two parts", 0, x.assign(2));
        CHECK.same("15: 5 / 2 first", 2, x.flow(0, 0));
        CHECK.same("15: the rest on the other", 3, x.flow(1, 0));
        x.assign(8);
        // 5 k / 8 is 0 0 1 1 2 3 3 4 5: the first that goes fills the street.
        CHECK.same("15: in eight parts", 1, x.flow(0, 0));
        CHECK.same("15: the others later", 4, x.flow(1, 0));
        CHECK.argument("15: 0 parts", () -> x.assign(0));
        CHECK.argument("15: 9 parts", () -> x.assign(9));
        CHECK.argument("15: -1 parts", () -> x.assign(-1));
        CHECK.same("15: throwing changes nothing", 1, x.flow(0, 0));
    }

    private static void assignByTimesOfTheBeginning() {
        TripRounds x = Towns.nodes(3);
        x.zone(0, 0, 10);
        x.zone(1, 10, 0);
        x.zone(2, 0, 10);
        x.weight(1, 1, 0);
        x.street(1, 0, 1, 10, 1);
        x.street(0, 2, 1, 0, 1);
        x.street(1, 2, 9, 0, 1);
        x.rounds(1, 0);
        x.assign(1);
        CHECK.same("15: a pair does not slow another of its part", 10, x.flow(0, 0));
        CHECK.same("15: both begin there", 5, x.link(0, 1, 2));
        x.assign(5);
        CHECK.same("15: but one of a later part", 1, x.link(0, 1, 2));
        CHECK.same("15: which goes elsewhere", 4, x.link(2, 1, 2));
    }

    private static void assignLost() {
        TripRounds x = Towns.pair(2, 5);
        x.street(1, 0, 1, 0, 1);
        CHECK.same("15: no way there", 5, x.assign(3));
        CHECK.same("15: nobody on the street", 0, x.flow(0, 0));
        x.street(0, 1, 1, 0, 1);
        CHECK.same("15: a way there", 0, x.assign(3));
        TripRounds one = Towns.nodes(1);
        one.zone(0, 6, 3);
        one.zone(0, 0, 3);
        one.rounds(1, 0);
        CHECK.same("15: zones at one node lose nothing", 0, one.assign(2));
        TripRounds apart = Towns.nodes(2);
        apart.zone(0, 6, 3);
        apart.zone(1, 0, 3);
        apart.rounds(1, 0);
        CHECK.same("15: those to itself are not lost", 3, apart.assign(2));
    }

    private static void assignOnlyDrivers() {
        TripRounds x = Towns.pair(2, 10);
        x.street(0, 1, 1, 0, 1);
        x.pull(0, 0, 1, 1);
        x.pull(1, 0, 1, 2);
        x.pull(2, 0, 1, 1);
        x.assign(4);
        CHECK.same("15: mode 0 alone", x.chosen(0, 0, 1), x.flow(0, 0));
        CHECK.same("15: 10 in 1, 2, 1", 3, x.flow(0, 0));
        x.open(0, false);
        CHECK.same("15: mode 0 alone is lost", 3, x.assign(4));
    }

    private static void assignAnew() {
        TripRounds x = Towns.pair(2, 10);
        x.street(0, 1, 1, 0, 1);
        x.assign(1);
        x.assign(1);
        CHECK.same("15: all volumes are 0 at first", 10, x.flow(0, 0));
        CHECK.same("19: and links", 10, x.link(0, 0, 1));
        x.size(0, 0, 4);
        x.rounds(1, 0);
        CHECK.same("16: volumes stay till then", 10, x.flow(0, 0));
        x.assign(1);
        CHECK.same("15: as the table is now", 4, x.flow(0, 0));
    }

    private static void flows() {
        TripRounds x = Towns.pair(2, 100);
        x.street(0, 1, 7, 3, 40);
        CHECK.same("16: time when empty", 7, x.flow(0, 1));
        x.assign(1);
        CHECK.same("16: volume", 100, x.flow(0, 0));
        CHECK.same("16: time, rounded down", 14, x.flow(0, 1));
        x.toll(0, 100);
        CHECK.same("16: time with toll", 114, x.flow(0, 1));
        CHECK.argument("16: what 2", () -> x.flow(0, 2));
        CHECK.argument("16: what -1", () -> x.flow(0, -1));
        CHECK.argument("16: street 1", () -> x.flow(1, 0));
        CHECK.argument("16: street -1", () -> x.flow(-1, 0));
        TripRounds full = Towns.pair(2, 100000);
        full.street(0, 1, 1000, 1000, 1);
        full.toll(0, 1000);
        full.assign(1);
        CHECK.same("16: 1000000 at most", 1000000, full.flow(0, 1));
        TripRounds brim = Towns.pair(2, 998);
        brim.street(0, 1, 1000, 1000, 1);
        brim.toll(0, 999);
        brim.assign(1);
        CHECK.same("16: just below", 999999, brim.flow(0, 1));
    }

    private static void ways() {
        TripRounds x = Towns.nodes(5);
        x.street(2, 3, 2, 0, 1);
        x.street(0, 1, 2, 0, 1);
        x.street(0, 2, 2, 0, 1);
        x.street(1, 3, 2, 0, 1);
        x.street(0, 3, 4, 0, 1);
        x.street(0, 3, 4, 0, 1);
        x.street(0, 3, 5, 0, 1);
        CHECK.same("17: the fewest streets, the lesser one", 4, x.way(0, 3, 0));
        CHECK.same("17: not so many", -1, x.way(0, 3, 1));
        x.open(4, false);
        CHECK.same("17: closed, the next", 5, x.way(0, 3, 0));
        x.open(5, false);
        CHECK.same("17: the lesser at the first place", 1, x.way(0, 3, 0));
        CHECK.same("17: whatever comes behind", 3, x.way(0, 3, 1));
        CHECK.same("17: no third", -1, x.way(0, 3, 2));
        CHECK.same("17: far beyond", -1, x.way(0, 3, 2147483647));
        CHECK.same("17: to itself", -1, x.way(3, 3, 0));
        CHECK.same("17: no way", -1, x.way(3, 0, 0));
        CHECK.same("17: nor to a node without streets", -1, x.way(0, 4, 0));
        CHECK.argument("17: k -1", () -> x.way(0, 3, -1));
        CHECK.argument("17: from 5", () -> x.way(5, 3, 0));
        CHECK.argument("17: to 5", () -> x.way(0, 5, 0));
        CHECK.argument("17: from -1", () -> x.way(-1, 3, 0));
        CHECK.argument("17: to -1", () -> x.way(0, -1, 0));
        TripRounds longest = Towns.nodes(12);
        for (int i = 11; i > 0; i--) {
            longest.street(i - 1, i, 1, 0, 1);
        }
        CHECK.same("17: through all nodes", 0, longest.way(0, 11, 10));
        CHECK.same("17: from the first street", 10, longest.way(0, 11, 0));
        CHECK.same("17: and no more", -1, longest.way(0, 11, 11));
        CHECK.same("18: through all nodes", 11, longest.least(0, 11));
        TripRounds upwards = Towns.nodes(12);
        for (int i = 1; i < 12; i++) {
            upwards.street(i - 1, i, 1, 0, 1);
        }
        CHECK.same("17: whatever came first", 10, upwards.way(0, 11, 10));
        CHECK.same("18: whatever came first", 11, upwards.least(0, 11));
    }

    private static void waysByTimeNow() {
        TripRounds x = Towns.pair(2, 5);
        x.street(0, 1, 1, 1, 1);
        x.street(0, 1, 5, 0, 1);
        CHECK.same("17: when empty", 0, x.way(0, 1, 0));
        x.assign(1);
        CHECK.same("17: when full", 1, x.way(0, 1, 0));
        CHECK.same("18: when full", 5, x.least(0, 1));
        x.toll(1, 1);
        CHECK.same("17: of equal times the lesser", 0, x.way(0, 1, 0));
        x.toll(1, 2);
        CHECK.same("18: with toll", 6, x.least(0, 1));
    }

    private static void leastTimes() {
        TripRounds x = Towns.nodes(4);
        x.street(0, 1, 1000, 0, 1);
        x.street(0, 2, 100, 0, 1);
        x.street(2, 1, 200, 0, 1);
        CHECK.same("18: over more streets", 300, x.least(0, 1));
        CHECK.same("17: over more streets", 1, x.way(0, 1, 0));
        CHECK.same("18: to itself", 0, x.least(3, 3));
        CHECK.same("18: none", -1, x.least(1, 0));
        CHECK.argument("18: from 4", () -> x.least(4, 0));
        CHECK.argument("18: to 4", () -> x.least(0, 4));
        CHECK.argument("18: from -1", () -> x.least(-1, 0));
        CHECK.argument("18: to -1", () -> x.least(0, -1));
    }

    private static void links() {
        TripRounds x = Towns.pair(3, 6);
        x.zone(2, 4, 0);
        x.street(0, 1, 1, 0, 1);
        x.street(2, 0, 1, 0, 1);
        x.weight(0, 2, 0);
        x.weight(2, 0, 0);
        x.weight(2, 2, 0);
        x.rounds(1, 0);
        CHECK.same("19: before any", 0, x.link(0, 0, 1));
        x.assign(3);
        CHECK.same("19: of zone 0", 6, x.link(0, 0, 1));
        CHECK.same("19: of zone 2", 4, x.link(0, 2, 1));
        CHECK.same("19: of zone 2 before", 4, x.link(1, 2, 1));
        CHECK.same("19: not of zone 0", 0, x.link(1, 0, 1));
        CHECK.same("19: not back", 0, x.link(0, 1, 0));
        CHECK.same("19: not to itself", 0, x.link(0, 0, 0));
        CHECK.same("16: together", 10, x.flow(0, 0));
        x.street(2, 1, 1, 0, 1);
        CHECK.same("19: of a new street", 0, x.link(2, 2, 1));
        CHECK.argument("19: street 3", () -> x.link(3, 0, 1));
        CHECK.argument("19: street -1", () -> x.link(-1, 0, 1));
        CHECK.argument("19: from 3", () -> x.link(0, 3, 1));
        CHECK.argument("19: to 3", () -> x.link(0, 1, 3));
        CHECK.argument("19: from -1", () -> x.link(0, -1, 1));
        CHECK.argument("19: to -1", () -> x.link(0, 1, -1));
    }

    private static void gaps() {
        TripRounds x = Towns.pair(2, 10);
        x.street(0, 1, 5, 2, 1);
        x.street(0, 1, 9, 0, 1);
        CHECK.same("20: before any", 0, x.gap());
        x.assign(1);
        // All 10 go on a street of time 25, where the other one has 9.
        CHECK.same("20: all on one", 160, x.gap());
        x.assign(2);
        // 5 on a street of time 15 and 5 on one of 9.
        CHECK.same("20: on both", 30, x.gap());
        x.size(0, 0, 0);
        x.rounds(1, 0);
        CHECK.same("20: of the latest assignment, not of the table", 30, x.gap());
    }

    private static void gapOfNow() {
        TripRounds x = Towns.pair(2, 10);
        x.street(0, 1, 5, 2, 1);
        x.street(0, 1, 9, 0, 1);
        x.assign(2);
        x.toll(1, 100);
        // 5 times 15 and 5 times 109, less 10 times 15.
        CHECK.same("20: with a toll of now", 470, x.gap());
        x.open(0, false);
        // The closed street's volume counts, but it is no way: 5 times 15 and 5 times 109, less 10 times 109.
        CHECK.same("20: less than 0 with a closed street", -470, x.gap());
        x.open(1, false);
        CHECK.same("20: without a way nothing is less", 620, x.gap());
        TripRounds lost = Towns.pair(2, 10);
        lost.assign(1);
        lost.street(0, 1, 5, 0, 1);
        CHECK.same("20: the lost ones went nowhere", 0, lost.gap());
        TripRounds great = Towns.pair(2, 100000);
        great.street(0, 1, 1, 1000, 1);
        great.street(0, 1, 1000, 0, 1);
        great.assign(1);
        CHECK.same("20: beyond an int", 100000L * (1000000L - 1000L), great.gap());
    }

    private static void counts() {
        TripRounds x = Towns.nodes(2);
        x.street(0, 1, 1, 0, 1);
        CHECK.same("21: at first", -1, x.count(0, 0));
        CHECK.same("21: 0 is a count", 0, x.count(0, 1000000));
        CHECK.argument("21: count -2", () -> x.count(0, -2));
        CHECK.argument("21: count 1000001", () -> x.count(0, 1000001));
        CHECK.argument("21: street 1", () -> x.count(1, 1));
        CHECK.argument("21: street -1", () -> x.count(-1, 1));
        CHECK.same("21: as it was", 1000000, x.count(0, -1));
        CHECK.same("21: none", -1, x.count(0, -1));
    }

    private static void fitting() {
        TripRounds x = Towns.pair(3, 6);
        x.zone(2, 4, 0);
        x.street(0, 1, 1, 0, 1);
        x.street(2, 0, 1, 0, 1);
        x.weight(0, 2, 0);
        x.weight(2, 0, 0);
        x.weight(2, 2, 0);
        x.rounds(1, 0);
        x.assign(1);
        x.count(0, 25);
        CHECK.same("22: once is enough", 1, x.fit(20));
        CHECK.same("22: 6 * 25 / 10", 15, x.trips(0, 1));
        CHECK.same("22: 4 * 25 / 10", 10, x.trips(2, 1));
        CHECK.same("22: assigned again", 25, x.flow(0, 0));
        CHECK.same("22: with links", 10, x.link(1, 2, 1));
        CHECK.same("22: nothing differs", 0, x.fit(20));
        x.count(0, -1);
        x.count(1, 0);
        CHECK.same("22: to nothing", 1, x.fit(20));
        CHECK.same("22: pairs that did not use it stay", 15, x.trips(0, 1));
        CHECK.same("22: pairs that used it go", 0, x.trips(2, 1));
        CHECK.same("22: the street is empty", 0, x.flow(1, 0));
    }

    private static void fitLooksAtTheFarthest() {
        TripRounds x = Towns.pair(4, 10);
        x.zone(2, 10, 0);
        x.zone(3, 0, 0);
        x.street(0, 1, 1, 0, 1);
        x.street(2, 3, 1, 0, 1);
        x.weight(0, 2, 0);
        x.weight(0, 3, 0);
        x.weight(2, 0, 0);
        x.weight(2, 1, 0);
        x.weight(2, 2, 0);
        x.rounds(1, 0);
        x.assign(1);
        x.count(0, 14);
        x.count(1, 6);
        CHECK.same("22: as far from both", 1, x.fit(1));
        CHECK.same("22: the lesser one first", 14, x.flow(0, 0));
        CHECK.same("22: not yet the other", 10, x.flow(1, 0));
        x.count(0, 13);
        CHECK.same("22: another time", 1, x.fit(1));
        CHECK.same("22: the one that differs more", 6, x.flow(1, 0));
        CHECK.same("22: not the other", 14, x.flow(0, 0));
        x.count(1, 16);
        CHECK.same("22: both in turn", 2, x.fit(3));
        CHECK.same("22: the one is fitted", 13, x.flow(0, 0));
        CHECK.same("22: the other too", 16, x.flow(1, 0));
    }

    private static void fitInParts() {
        TripRounds x = Towns.pair(2, 10);
        x.street(0, 1, 1, 10, 1);
        x.street(0, 1, 5, 0, 1);
        x.assign(2);
        x.count(0, 7);
        CHECK.same("22: in two parts", 1, x.fit(1));
        CHECK.same("22: 10 * 7 / 5", 14, x.trips(0, 1));
        CHECK.same("22: half of it", 7, x.flow(0, 0));
        CHECK.same("22: the other half", 7, x.flow(1, 0));
        x.pull(1, 0, 1, 1000);
        x.assign(2);
        CHECK.same("22: half by mode 0", 3, x.flow(0, 0));
        CHECK.same("22: all modes grow", 1, x.fit(1));
        CHECK.same("22: 14 * 7 / 3", 32, x.trips(0, 1));
        CHECK.same("22: a quarter of it", 8, x.flow(0, 0));
    }

    private static void fitBounds() {
        TripRounds x = Towns.pair(2, 100000);
        x.street(0, 1, 1, 0, 1);
        x.pull(0, 0, 1, 1);
        x.pull(1, 0, 1, 999);
        x.assign(1);
        x.count(0, 1000000);
        CHECK.same("16: a thousandth", 100, x.flow(0, 0));
        CHECK.same("22: too many are asked", 1, x.fit(1));
        CHECK.same("22: 1000000 at most", 1000000, x.trips(0, 1));
        CHECK.same("22: a thousandth of it", 1000, x.flow(0, 0));
        CHECK.same("22: counted though nothing changes", 20, x.fit(20));
    }

    private static void fitGreat() {
        TripRounds one = Towns.pair(2, 100000);
        one.street(0, 1, 1, 0, 1);
        one.assign(1);
        one.count(0, 200000);
        CHECK.same("22: products beyond an int", 1, one.fit(5));
        CHECK.same("22: twice as many", 200000, one.trips(0, 1));
        TripRounds x = Towns.nodes(5);
        x.zone(4, 0, 100000);
        x.street(3, 4, 1, 1000, 1000000);
        for (int i = 0; i < 3; i++) {
            int zone = x.zone(i, 100000, 0);
            x.street(i, 3, 1, 0, 1);
            x.count(zone, 1000000);
        }
        for (int from = 1; from < 4; from++) {
            for (int to = 1; to < 4; to++) {
                x.weight(from, to, 0);
            }
        }
        x.rounds(1, 0);
        x.assign(1);
        CHECK.same("22: street by street", 3, x.fit(20));
        CHECK.same("16: they come together", 3000000, x.flow(0, 0));
        CHECK.same("16: products beyond an int", 3001, x.flow(0, 1));
    }

    private static void fitEnds() {
        TripRounds x = Towns.pair(3, 10);
        x.street(0, 1, 1, 0, 1);
        x.street(1, 2, 1, 0, 1);
        x.assign(1);
        CHECK.same("22: without counts", 0, x.fit(1));
        x.count(0, 11);
        x.count(1, 12);
        CHECK.same("22: the farthest is empty", 0, x.fit(5));
        CHECK.same("22: nothing changes then", 10, x.trips(0, 1));
        x.count(1, 0);
        CHECK.same("22: empty as counted", 1, x.fit(5));
        CHECK.same("22: fitted", 11, x.flow(0, 0));
        TripRounds empty = Towns.nodes(0);
        empty.assign(1);
        CHECK.same("22: an empty town", 0, empty.fit(20));
    }

    private static void fitWrong() {
        TripRounds x = Towns.pair(2, 10);
        x.street(0, 1, 1, 0, 1);
        x.count(0, 5);
        CHECK.state("22: nothing was assigned", () -> x.fit(1));
        CHECK.argument("22: argument goes first", () -> x.fit(0));
        CHECK.argument("22: 21 before", () -> x.fit(21));
        CHECK.argument("15: a wrong assign", () -> x.assign(9));
        CHECK.state("22: assigns nothing", () -> x.fit(20));
        x.assign(1);
        CHECK.argument("22: 0 times", () -> x.fit(0));
        CHECK.argument("22: 21 times", () -> x.fit(21));
        CHECK.argument("22: -1 times", () -> x.fit(-1));
        CHECK.same("22: throwing changes nothing", 10, x.trips(0, 1));
    }
}
