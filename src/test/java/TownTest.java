/** Promises 1 to 8: what a town is made of. */
public final class TownTest {
    private static final Check CHECK = new Check();

    public static void main(String[] args) {
        newObject();
        nodes();
        zones();
        streets();
        tolls();
        openStreets();
        weights();
        sizes();
        CHECK.end();
    }

    private static void newObject() {
        TripRounds x = new TripRounds();
        CHECK.same("NONE", -1, TripRounds.NONE);
        CHECK.argument("1: zone without nodes", () -> x.zone(0, 1, 1));
        CHECK.argument("1: least without nodes", () -> x.least(0, 0));
        CHECK.argument("1: trips without zones", () -> x.trips(0, 0));
        CHECK.argument("1: flow without streets", () -> x.flow(0, 0));
        CHECK.same("1: gap", 0, x.gap());
        CHECK.same("1: rounds without zones", 1, x.rounds(50, 0));
        CHECK.same("1: assign without zones", 0, x.assign(8));
        CHECK.same("1: first node", 0, x.node());
    }

    private static void nodes() {
        TripRounds x = new TripRounds();
        for (int i = 0; i < 12; i++) {
            CHECK.same("2: node", i, x.node());
        }
        CHECK.state("2: node 13", () -> x.node());
        CHECK.state("2: node 13 again", () -> x.node());
        CHECK.same("2: node 11 is there", 0, x.least(11, 11));
        CHECK.argument("2: node 12 is not", () -> x.least(12, 12));
    }

    private static void zones() {
        TripRounds x = Towns.nodes(2);
        CHECK.argument("3: node -1", () -> x.zone(-1, 1, 1));
        CHECK.argument("3: node 2", () -> x.zone(2, 1, 1));
        CHECK.argument("3: people -1", () -> x.zone(0, -1, 1));
        CHECK.argument("3: people 100001", () -> x.zone(0, 100001, 1));
        CHECK.argument("3: jobs -1", () -> x.zone(0, 1, -1));
        CHECK.argument("3: jobs 100001", () -> x.zone(0, 1, 100001));
        CHECK.same("3: zone", 0, x.zone(0, 100000, 0));
        CHECK.same("3: its people", 100000, x.size(0, 0, 1));
        CHECK.same("3: its jobs", 0, x.size(0, 1, 1));
        CHECK.same("3: two at one node", 1, x.zone(0, 0, 100000));
        CHECK.same("3: its people", 0, x.size(1, 0, 1));
        CHECK.same("3: its jobs", 100000, x.size(1, 1, 1));
        for (int i = 2; i < 6; i++) {
            CHECK.same("3: zone", i, x.zone(1, 1, 1));
        }
        CHECK.argument("3: argument goes first", () -> x.zone(0, 1, 100001));
        CHECK.argument("3: node goes first", () -> x.zone(2, 1, 1));
        CHECK.state("3: zone 7", () -> x.zone(0, 1, 1));
        CHECK.argument("3: zone 6 is not there", () -> x.sum(6, 0));
        CHECK.same("3: zone 5 is there", 0, x.sum(5, 0));
    }

    private static void streets() {
        TripRounds x = Towns.nodes(2);
        CHECK.argument("4: from -1", () -> x.street(-1, 1, 1, 0, 1));
        CHECK.argument("4: from 2", () -> x.street(2, 1, 1, 0, 1));
        CHECK.argument("4: to -1", () -> x.street(0, -1, 1, 0, 1));
        CHECK.argument("4: to 2", () -> x.street(0, 2, 1, 0, 1));
        CHECK.argument("4: both are one", () -> x.street(1, 1, 1, 0, 1));
        CHECK.argument("4: free 0", () -> x.street(0, 1, 0, 0, 1));
        CHECK.argument("4: free 1001", () -> x.street(0, 1, 1001, 0, 1));
        CHECK.argument("4: slope -1", () -> x.street(0, 1, 1, -1, 1));
        CHECK.argument("4: slope 1001", () -> x.street(0, 1, 1, 1001, 1));
        CHECK.argument("4: room 0", () -> x.street(0, 1, 1, 0, 0));
        CHECK.argument("4: room 1000001", () -> x.street(0, 1, 1, 0, 1000001));
        CHECK.same("4: street", 0, x.street(0, 1, 1000, 1000, 1000000));
        CHECK.same("4: its time", 1000, x.flow(0, 1));
        CHECK.same("4: its volume", 0, x.flow(0, 0));
        CHECK.same("4: it leads one way", -1, x.least(1, 0));
        CHECK.same("4: another beside it", 1, x.street(0, 1, 1, 0, 1));
        for (int i = 2; i < 40; i++) {
            CHECK.same("4: street", i, x.street(1, 0, 1, 0, 1));
        }
        CHECK.argument("4: argument goes first", () -> x.street(1, 1, 1, 0, 1));
        CHECK.state("4: street 41", () -> x.street(0, 1, 1, 0, 1));
        CHECK.argument("4: street 40 is not there", () -> x.flow(40, 0));
        CHECK.same("4: street 39 is there", 1, x.flow(39, 1));
    }

    private static void tolls() {
        TripRounds x = Towns.nodes(2);
        x.street(0, 1, 5, 0, 1);
        CHECK.same("5: toll at first", 0, x.toll(0, 1000));
        CHECK.same("5: time with it", 1005, x.flow(0, 1));
        CHECK.argument("5: toll -1", () -> x.toll(0, -1));
        CHECK.argument("5: toll 1001", () -> x.toll(0, 1001));
        CHECK.argument("5: street 1", () -> x.toll(1, 0));
        CHECK.argument("5: street -1", () -> x.toll(-1, 0));
        CHECK.same("5: toll as it was", 1000, x.toll(0, 0));
        CHECK.same("5: time without it", 5, x.flow(0, 1));
    }

    private static void openStreets() {
        TripRounds x = Towns.nodes(2);
        x.zone(0, 10, 0);
        x.zone(1, 0, 10);
        x.street(0, 1, 5, 0, 1);
        x.rounds(2, 0);
        x.assign(1);
        CHECK.same("6: open at first", 1, x.open(0, false) ? 1 : 0);
        CHECK.same("6: closed", 0, x.open(0, false) ? 1 : 0);
        CHECK.same("6: no way", -1, x.least(0, 1));
        CHECK.same("6: what is assigned stays", 10, x.flow(0, 0));
        CHECK.same("6: and by pairs too", 10, x.link(0, 0, 1));
        CHECK.argument("6: street 1", () -> x.open(1, true));
        CHECK.argument("6: street -1", () -> x.open(-1, true));
        CHECK.same("6: still closed", 0, x.open(0, true) ? 1 : 0);
        CHECK.same("6: open again", 1, x.open(0, true) ? 1 : 0);
        CHECK.same("6: a way again", 5, x.least(0, 1));
    }

    private static void weights() {
        TripRounds x = Towns.nodes(1);
        x.zone(0, 12, 0);
        x.zone(0, 12, 0);
        CHECK.same("7: weight at first", 1, x.weight(0, 1, 1000));
        CHECK.argument("7: weight -1", () -> x.weight(0, 1, -1));
        CHECK.argument("7: weight 1001", () -> x.weight(0, 1, 1001));
        CHECK.argument("7: from 2", () -> x.weight(2, 1, 1));
        CHECK.argument("7: to 2", () -> x.weight(1, 2, 1));
        CHECK.argument("7: from -1", () -> x.weight(-1, 1, 1));
        CHECK.argument("7: to -1", () -> x.weight(1, -1, 1));
        CHECK.same("7: weight as it was", 1000, x.weight(0, 1, 3));
        CHECK.same("7: the pair the other way", 1, x.weight(1, 0, 0));
        x.rounds(1, 0);
        CHECK.same("7: weights share", 9, x.trips(0, 1));
        CHECK.same("7: weight 0 gets nothing", 0, x.trips(1, 0));
        CHECK.same("7: the other gets all", 12, x.trips(1, 1));
    }

    private static void sizes() {
        TripRounds x = Towns.nodes(1);
        x.zone(0, 7, 9);
        CHECK.argument("8: what 2", () -> x.size(0, 2, 1));
        CHECK.argument("8: what -1", () -> x.size(0, -1, 1));
        CHECK.argument("8: size -1", () -> x.size(0, 0, -1));
        CHECK.argument("8: size 100001", () -> x.size(0, 1, 100001));
        CHECK.argument("8: zone 1", () -> x.size(1, 0, 1));
        CHECK.argument("8: zone -1", () -> x.size(-1, 0, 1));
        CHECK.same("8: people", 7, x.size(0, 0, 100000));
        CHECK.same("8: jobs", 9, x.size(0, 1, 100000));
        CHECK.same("8: the table stays", 0, x.trips(0, 0));
        CHECK.same("8: both are met", 1, x.rounds(1, 0));
        CHECK.same("8: people as told", 100000, x.trips(0, 0));
        CHECK.same("8: people as they were", 100000, x.size(0, 0, 0));
        CHECK.same("8: jobs as they were", 100000, x.size(0, 1, 0));
    }
}
