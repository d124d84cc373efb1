/** Promises 9 to 14: the table of trips, and modes. */
public final class TripsTest {
    private static final Check CHECK = new Check();

    public static void main(String[] args) {
        roundsTillMet();
        roundsWrong();
        sharingOut();
        factorBounds();
        factorsOfRounds();
        tripsAndSums();
        pulls();
        chosenByModes();
        CHECK.end();
    }

    private static void roundsTillMet() {
        TripRounds x = Towns.atOneNode(10, 3, 0, 7);
        CHECK.same("9: not met in one", -1, x.rounds(1, 0));
        CHECK.same("9: the table of round 1", 5, x.trips(0, 0));
        CHECK.same("9: met in two", 2, x.rounds(2, 0));
        CHECK.same("9: the table of round 2", 3, x.trips(0, 0));
        CHECK.same("9: no round more than needed", 2, x.rounds(50, 0));
        CHECK.same("9: by 1 is not enough at once", 2, x.rounds(50, 1));
        CHECK.same("9: by 2 is met at once", 1, x.rounds(50, 2));
        CHECK.same("9: by 100000", 1, x.rounds(50, 100000));
        CHECK.same("9: the table of that", 5, x.trips(0, 0));
        x.size(1, 1, 8);
        CHECK.same("9: sums that differ are never met", -50, x.rounds(50, 0));
        CHECK.same("9: but by 1", 2, x.rounds(50, 1));
    }

    private static void roundsWrong() {
        TripRounds x = Towns.atOneNode(10, 3, 0, 7);
        x.rounds(50, 0);
        CHECK.argument("9: most 0", () -> x.rounds(0, 0));
        CHECK.argument("9: most 51", () -> x.rounds(51, 0));
        CHECK.argument("9: by -1", () -> x.rounds(1, -1));
        CHECK.argument("9: by 100001", () -> x.rounds(1, 100001));
        CHECK.same("9: throwing changes no table", 3, x.trips(0, 0));
        CHECK.same("9: nor a factor", 600, x.factor(0));
    }

    private static void sharingOut() {
        TripRounds x = Towns.atOneNode(11, 0, 10, 0, 10, 0);
        x.weight(1, 1, 2);
        x.weight(1, 2, 3);
        for (int to = 0; to < 3; to++) {
            x.weight(2, to, 0);
        }
        x.rounds(1, 0);
        CHECK.same("9: of equal rests the lesser place", 4, x.trips(0, 0));
        CHECK.same("9: then the next", 4, x.trips(0, 1));
        CHECK.same("9: not the last", 3, x.trips(0, 2));
        CHECK.same("9: the greatest rest", 2, x.trips(1, 0));
        CHECK.same("9: a lesser rest", 3, x.trips(1, 1));
        CHECK.same("9: no rest", 5, x.trips(1, 2));
        CHECK.same("9: in zeros nothing is shared", 0, x.sum(2, 0));
    }

    private static void factorBounds() {
        TripRounds low = Towns.atOneNode(10, 0, 0, 10);
        CHECK.same("9: no jobs", 2, low.rounds(50, 0));
        CHECK.same("12: 1 at least", 1, low.factor(0));
        CHECK.same("12: doubled", 2000, low.factor(1));
        TripRounds high = Towns.atOneNode(1000, 0, 0, 100000);
        high.weight(0, 0, 1000);
        CHECK.same("9: too many jobs", -2, high.rounds(2, 0));
        CHECK.same("12: 1000000 at most", 1000000, high.factor(1));
        TripRounds still = Towns.atOneNode(10, 3, 0, 7);
        still.weight(0, 1, 0);
        still.weight(1, 1, 0);
        CHECK.same("9: nobody can go there", -3, still.rounds(3, 0));
        CHECK.same("12: without trips it stays", 1000, still.factor(1));
        CHECK.same("12: with trips it does not", 90, still.factor(0));
    }

    private static void factorsOfRounds() {
        TripRounds x = Towns.atOneNode(10, 3, 0, 7);
        CHECK.same("12: before any", -1, x.factor(0));
        x.rounds(1, 0);
        CHECK.same("12: as it was used last", 1000, x.factor(0));
        x.rounds(50, 0);
        CHECK.same("12: of zone 0", 600, x.factor(0));
        CHECK.same("12: of zone 1", 1400, x.factor(1));
        x.node();
        x.zone(1, 0, 0);
        CHECK.same("12: of a zone that came later", -1, x.factor(2));
        x.rounds(50, 100000);
        CHECK.same("12: each call begins anew", 1000, x.factor(0));
        CHECK.same("12: with all zones", 1000, x.factor(2));
        CHECK.argument("12: zone 3", () -> x.factor(3));
        CHECK.argument("12: zone -1", () -> x.factor(-1));
    }

    private static void tripsAndSums() {
        TripRounds x = Towns.atOneNode(12, 0, 6, 0, 3, 0);
        CHECK.same("10: at first", 0, x.trips(0, 1));
        x.weight(0, 0, 0);
        x.rounds(1, 0);
        CHECK.same("10: to itself", 0, x.trips(0, 0));
        CHECK.same("10: to another", 6, x.trips(0, 1));
        CHECK.same("10: and back", 2, x.trips(1, 0));
        CHECK.same("11: from 0", 12, x.sum(0, 0));
        CHECK.same("11: from 1", 6, x.sum(1, 0));
        CHECK.same("11: to 0", 3, x.sum(0, 1));
        CHECK.same("11: to 1", 9, x.sum(1, 1));
        CHECK.argument("10: from 3", () -> x.trips(3, 0));
        CHECK.argument("10: to 3", () -> x.trips(0, 3));
        CHECK.argument("10: from -1", () -> x.trips(-1, 0));
        CHECK.argument("10: to -1", () -> x.trips(0, -1));
        CHECK.argument("11: side 2", () -> x.sum(0, 2));
        CHECK.argument("11: side -1", () -> x.sum(0, -1));
        CHECK.argument("11: zone 3", () -> x.sum(3, 0));
        CHECK.argument("11: zone -1", () -> x.sum(-1, 1));
    }

    private static void pulls() {
        TripRounds x = Towns.atOneNode(10, 0, 10, 0);
        CHECK.same("13: of mode 0 at first", 1000, x.pull(0, 0, 1, 0));
        CHECK.same("13: of mode 1 at first", 0, x.pull(1, 0, 1, 1000));
        CHECK.same("13: of mode 2 at first", 0, x.pull(2, 0, 1, 7));
        CHECK.argument("13: mode 3", () -> x.pull(3, 0, 1, 1));
        CHECK.argument("13: mode -1", () -> x.pull(-1, 0, 1, 1));
        CHECK.argument("13: from 2", () -> x.pull(0, 2, 1, 1));
        CHECK.argument("13: to 2", () -> x.pull(0, 1, 2, 1));
        CHECK.argument("13: from -1", () -> x.pull(0, -1, 1, 1));
        CHECK.argument("13: to -1", () -> x.pull(0, 1, -1, 1));
        CHECK.argument("13: pull -1", () -> x.pull(0, 0, 1, -1));
        CHECK.argument("13: pull 1001", () -> x.pull(0, 0, 1, 1001));
        CHECK.same("13: of mode 0 as it was", 0, x.pull(0, 0, 1, 1));
        CHECK.same("13: of mode 1 as it was", 1000, x.pull(1, 0, 1, 1));
        CHECK.same("13: of mode 2 as it was", 7, x.pull(2, 0, 1, 1));
        CHECK.same("13: other pairs have their own", 1000, x.pull(0, 1, 0, 1));
        CHECK.same("13: a zone's own pair", 1000, x.pull(0, 1, 1, 1));
    }

    private static void chosenByModes() {
        TripRounds x = Towns.atOneNode(20, 0, 20, 0);
        CHECK.same("14: of an empty table", 0, x.chosen(0, 0, 1));
        x.rounds(1, 0);
        CHECK.same("14: all by mode 0", 10, x.chosen(0, 0, 1));
        CHECK.same("14: none by mode 1", 0, x.chosen(1, 0, 1));
        x.pull(0, 0, 1, 1);
        x.pull(1, 0, 1, 1);
        x.pull(2, 0, 1, 1);
        CHECK.same("14: the lesser mode first", 4, x.chosen(0, 0, 1));
        CHECK.same("14: then no more", 3, x.chosen(1, 0, 1));
        CHECK.same("14: nor here", 3, x.chosen(2, 0, 1));
        x.pull(2, 0, 1, 2);
        CHECK.same("14: 10 in 1, 1, 2: rest 2", 3, x.chosen(0, 0, 1));
        CHECK.same("14: 10 in 1, 1, 2: rest 2 too", 2, x.chosen(1, 0, 1));
        CHECK.same("14: 10 in 1, 1, 2: no rest", 5, x.chosen(2, 0, 1));
        x.pull(0, 0, 1, 0);
        x.pull(1, 0, 1, 0);
        x.pull(2, 0, 1, 0);
        CHECK.same("14: without pulls nobody goes", 0, x.chosen(0, 0, 1) + x.chosen(2, 0, 1));
        CHECK.same("14: the table stays", 10, x.trips(0, 1));
        CHECK.same("14: other pairs stay", 10, x.chosen(0, 1, 0));
        CHECK.same("14: to itself", 10, x.chosen(0, 1, 1));
        CHECK.argument("14: mode 3", () -> x.chosen(3, 0, 1));
        CHECK.argument("14: mode -1", () -> x.chosen(-1, 0, 1));
        CHECK.argument("14: from 2", () -> x.chosen(0, 2, 1));
        CHECK.argument("14: to 2", () -> x.chosen(0, 1, 2));
        CHECK.argument("14: from -1", () -> x.chosen(0, -1, 1));
        CHECK.argument("14: to -1", () -> x.chosen(0, 1, -1));
    }
}
