/** The edges of ASSIGNMENT and THE GAP, sentence by sentence: promises 15, 16, 19 and 20. */
public final class AssignEdgesTest {
    private static final Check CHECK = new Check();

    public static void main(String[] args) {
        nothingToAssign();
        volumesAtFirst();
        partsRoundedDown();
        fewerTripsThanParts();
        asManyTripsAsParts();
        theMostTrips();
        notToItself();
        zonesAtOneNode();
        timesOfThePartsBeginning();
        lost();
        onlyModeZero();
        links();
        gapBeforeAny();
        gapOfWaysNow();
        gapOfWaysThatAreNoMore();
        gapOfTheLost();
        gapOfTheLatest();
        gapWithoutStreets();
        gapOfEachPair();
        gapSigns();
        CHECK.end();
    }

    /** The volumes of all streets, in their order. */
    private static String volumes(TripRounds x, int streets) {
        StringBuilder text = new StringBuilder();
        for (int s = 0; s < streets; s++) {
            text.append(s == 0 ? "" : " ").append(x.flow(s, 0));
        }
        return text.toString();
    }

    /** So many trips in so many parts, where each part that is not empty has to take a street of its own. */
    private static String byParts(int trips, int parts) {
        TripRounds x = Towns.pair(2, trips);
        for (int s = 0; s < 8; s++) {
            x.street(0, 1, 1 + s, 1000, 1);
        }
        x.assign(parts);
        return volumes(x, 8);
    }

    private static void nothingToAssign() {
        TripRounds x = new TripRounds();
        CHECK.same("15: in an empty town", 0, x.assign(1));
        CHECK.same("15: in 8 parts", 0, x.assign(8));
        CHECK.same("20: its gap", 0, x.gap());
        TripRounds zones = Towns.atOneNode(10, 10, 10, 10);
        CHECK.same("15: of an empty table", 0, zones.assign(1));
        TripRounds noStreets = Towns.pair(2, 10);
        CHECK.same("15: without streets all are lost", 10, noStreets.assign(1));
        CHECK.same("15: none twice", 10, noStreets.assign(8));
        TripRounds noTrips = Towns.pair(2, 0);
        noTrips.street(0, 1, 1, 0, 1);
        CHECK.same("15: no trips, none lost", 0, noTrips.assign(8));
        CHECK.same("16: nor on the street", 0, noTrips.flow(0, 0));
    }

    private static void volumesAtFirst() {
        TripRounds x = Towns.pair(2, 10);
        x.street(0, 1, 1, 1000, 1);
        x.street(0, 1, 5, 0, 1);
        CHECK.text("16: before any", "0 0", volumes(x, 2));
        x.assign(1);
        CHECK.text("16: on the one that is quickest when empty", "10 0", volumes(x, 2));
        x.assign(1);
        CHECK.text("15: all volumes are 0 at first, once more", "10 0", volumes(x, 2));
        x.assign(2);
        CHECK.text("15: and in two parts", "5 5", volumes(x, 2));
        x.assign(1);
        CHECK.text("15: nothing is left of those", "10 0", volumes(x, 2));
        x.street(0, 1, 1, 0, 1);
        CHECK.text("16: of a new street", "10 0 0", volumes(x, 3));
        CHECK.same("19: of a new street", 0, x.link(2, 0, 1));
    }

    private static void partsRoundedDown() {
        CHECK.text("15: 5 in 1", "5 0 0 0 0 0 0 0", byParts(5, 1));
        CHECK.text("15: 5 in 2", "2 3 0 0 0 0 0 0", byParts(5, 2));
        CHECK.text("15: 5 in 3", "1 2 2 0 0 0 0 0", byParts(5, 3));
        CHECK.text("15: 7 in 4", "1 2 2 2 0 0 0 0", byParts(7, 4));
        CHECK.text("15: 11 in 4", "2 3 3 3 0 0 0 0", byParts(11, 4));
        CHECK.text("15: 20 in 8", "2 3 2 3 2 3 2 3", byParts(20, 8));
        CHECK.text("15: 9 in 8", "1 1 1 1 1 1 1 2", byParts(9, 8));
        CHECK.text("15: 15 in 8", "1 2 2 2 2 2 2 2", byParts(15, 8));
    }

    private static void fewerTripsThanParts() {
        CHECK.text("15: 0 in 8", "0 0 0 0 0 0 0 0", byParts(0, 8));
        // 3 k / 8 is 0 0 0 1 1 1 2 2 3.
        CHECK.text("15: 3 in 8", "1 1 1 0 0 0 0 0", byParts(3, 8));
        TripRounds x = Towns.nodes(3);
        x.zone(0, 9, 0);
        x.zone(1, 0, 0);
        x.zone(2, 0, 0);
        Towns.weights(x, 0, 0, 1, 8);
        x.street(0, 1, 1, 4, 8);
        x.street(1, 2, 1, 0, 1);
        x.street(0, 1, 4, 0, 1);
        x.rounds(1, 0);
        x.assign(8);
        // Behind k parts of one trip each street 0 has 1 + k / 2: from k = 6 on it is as slow as street 2, and of
        // these two the lesser is taken; the one trip to zone 1 goes in the last part.
        CHECK.text("15: the others", "9 8 0", volumes(x, 3));
        x.toll(0, 1);
        x.assign(8);
        // 2 + k / 2 is more than 4 from k = 6 on: two parts, and with them the one trip, go on street 2.
        CHECK.text("15: the last part takes the other street", "6 8 3", volumes(x, 3));
        CHECK.same("19: one trip goes in the last part", 1, x.link(2, 0, 1));
        CHECK.same("19: and not before", 0, x.link(0, 0, 1));
    }

    private static void asManyTripsAsParts() {
        CHECK.text("15: 8 in 8", "1 1 1 1 1 1 1 1", byParts(8, 8));
        CHECK.text("15: 1 in 1", "1 0 0 0 0 0 0 0", byParts(1, 1));
        CHECK.text("15: 1 in 2", "1 0 0 0 0 0 0 0", byParts(1, 2));
    }

    private static void theMostTrips() {
        TripRounds x = Towns.pair(2, 100000);
        x.street(0, 1, 1, 0, 1);
        x.assign(1);
        x.count(0, 1000000);
        CHECK.same("22: ten times as many", 1, x.fit(1));
        CHECK.same("16: in one part", 1000000, x.flow(0, 0));
        x.street(0, 1, 1, 0, 1);
        x.assign(8);
        CHECK.same("16: in eight parts", 1000000, x.flow(0, 0));
        CHECK.same("19: of the one pair", 1000000, x.link(0, 0, 1));
        x.open(0, false);
        x.open(1, false);
        CHECK.same("15: all lost", 1000000, x.assign(7));
        TripRounds six = Towns.nodes(6);
        for (int i = 0; i < 6; i++) {
            six.zone(i, 100000, 0);
        }
        for (int i = 0; i < 6; i++) {
            six.weight(i, i, 0);
        }
        six.rounds(1, 100000);
        CHECK.same("15: all people of all zones lost", 600000, six.assign(8));
    }

    private static void notToItself() {
        TripRounds x = Towns.nodes(2);
        x.zone(0, 10, 10);
        x.street(0, 1, 1, 0, 1);
        x.street(1, 0, 1, 0, 1);
        x.rounds(1, 0);
        CHECK.same("10: all stay", 10, x.trips(0, 0));
        CHECK.same("15: none of them is lost", 0, x.assign(1));
        CHECK.text("15: none of them is on a street", "0 0", volumes(x, 2));
        CHECK.same("19: nor linked", 0, x.link(0, 0, 0));
        CHECK.same("20: nor has it a gap", 0, x.gap());
    }

    private static void zonesAtOneNode() {
        TripRounds x = Towns.nodes(2);
        x.zone(0, 10, 0);
        x.zone(0, 0, 10);
        x.weight(0, 0, 0);
        x.street(0, 1, 1, 0, 1);
        x.street(1, 0, 1, 0, 1);
        x.rounds(1, 0);
        CHECK.same("15: the way without streets loses none", 0, x.assign(3));
        CHECK.text("15: and loads no street", "0 0", volumes(x, 2));
        CHECK.same("19: nor links one", 0, x.link(0, 0, 1));
        CHECK.same("20: nor has it a gap", 0, x.gap());
        x.open(0, false);
        x.open(1, false);
        CHECK.same("15: with all closed too", 0, x.assign(3));
    }

    private static void timesOfThePartsBeginning() {
        TripRounds x = Towns.nodes(3);
        x.zone(0, 6, 0);
        x.zone(1, 6, 0);
        x.zone(2, 0, 12);
        Towns.weights(x, 0, 0, 0, 1);
        Towns.weights(x, 1, 0, 0, 1);
        x.street(0, 1, 1, 0, 1);
        x.street(1, 2, 1, 1000, 1);
        x.street(1, 2, 50, 0, 1);
        x.rounds(1, 0);
        x.assign(1);
        CHECK.text("15: both pairs by the times of the one part", "6 12 0", volumes(x, 3));
        x.assign(2);
        CHECK.text("15: both pairs by the times of each part", "6 6 6", volumes(x, 3));
        CHECK.same("19: the first pair in part 0", 3, x.link(1, 0, 2));
        CHECK.same("19: the second pair in part 0", 3, x.link(1, 1, 2));
        x.toll(2, 1000);
        x.assign(2);
        CHECK.text("15: 6001 is more than 1050", "6 6 6", volumes(x, 3));
        x.open(2, false);
        x.assign(2);
        CHECK.text("15: a closed one is not taken, however slow", "6 12 0", volumes(x, 3));
    }

    private static void lost() {
        TripRounds x = Towns.nodes(3);
        x.zone(0, 10, 0);
        x.zone(1, 0, 4);
        x.zone(2, 0, 6);
        Towns.weights(x, 0, 0, 2, 3);
        x.street(0, 1, 1, 0, 1);
        x.rounds(1, 0);
        CHECK.same("15: those of one pair alone", 6, x.assign(4));
        CHECK.same("16: the others go", 4, x.flow(0, 0));
        CHECK.same("15: not added to those before", 6, x.assign(4));
        x.street(1, 2, 1, 0, 1);
        CHECK.same("15: none, with a way for all", 0, x.assign(4));
        x.open(0, false);
        CHECK.same("15: all, with the first street closed", 10, x.assign(4));
        CHECK.text("16: nobody goes half a way", "0 0", volumes(x, 2));
        CHECK.same("19: nor is linked", 0, x.link(1, 0, 2));
    }

    private static void onlyModeZero() {
        TripRounds x = Towns.pair(2, 9);
        x.street(0, 1, 1, 0, 1);
        x.pull(0, 0, 1, 0);
        CHECK.same("15: without pulls none is lost", 0, x.assign(2));
        CHECK.same("16: nor goes", 0, x.flow(0, 0));
        x.pull(1, 0, 1, 1000);
        x.assign(2);
        CHECK.same("16: all by another mode", 0, x.flow(0, 0));
        x.pull(0, 0, 1, 1000);
        x.assign(2);
        CHECK.same("16: the one that is left goes by mode 0", 5, x.flow(0, 0));
        CHECK.same("19: and is linked", 5, x.link(0, 0, 1));
        x.open(0, false);
        CHECK.same("15: only mode 0 is lost", 5, x.assign(2));
        x.pull(0, 0, 1, 0);
        CHECK.same("15: nobody of the others", 0, x.assign(2));
        x.pull(0, 0, 1, 1);
        // 9 by 1001: rest 9 for mode 0 and 991 for mode 1.
        CHECK.same("15: a pull too small for one", 0, x.assign(2));
    }

    private static void links() {
        TripRounds x = Towns.pair(3, 10);
        x.street(0, 2, 1, 0, 1);
        x.street(2, 1, 1, 0, 1);
        CHECK.same("19: before any", 0, x.link(0, 0, 1));
        x.assign(1);
        CHECK.same("19: on the first street", 10, x.link(0, 0, 1));
        CHECK.same("19: on the last street", 10, x.link(1, 0, 1));
        CHECK.same("19: of the pair the other way", 0, x.link(0, 1, 0));
        x.size(0, 0, 3);
        x.rounds(1, 0);
        CHECK.same("19: of the latest assignment, not of the table", 10, x.link(0, 0, 1));
        x.zone(2, 5, 5);
        CHECK.same("19: of a zone that came later", 0, x.link(0, 2, 1));
        x.assign(1);
        CHECK.same("19: of the next assignment", 3, x.link(0, 0, 1));
        x.open(0, false);
        CHECK.same("19: closed, as it went", 3, x.link(0, 0, 1));
        x.assign(1);
        CHECK.same("19: none, where they are lost", 0, x.link(0, 0, 1));
        CHECK.same("19: nor on the open one", 0, x.link(1, 0, 1));
    }

    private static void gapBeforeAny() {
        TripRounds x = new TripRounds();
        CHECK.same("20: in an empty town", 0, x.gap());
        TripRounds town = Towns.pair(2, 10);
        town.street(0, 1, 5, 5, 5);
        CHECK.same("20: before any assignment", 0, town.gap());
    }

    private static TripRounds twoStreets() {
        TripRounds x = Towns.pair(2, 10);
        x.street(0, 1, 5, 1, 1);
        x.street(0, 1, 15, 0, 1);
        x.assign(1);
        return x;
    }

    private static void gapOfWaysNow() {
        TripRounds x = twoStreets();
        CHECK.same("20: both as long", 0, x.gap());
        x.toll(1, 1);
        CHECK.same("20: the other longer", 0, x.gap());
        x.toll(1, 0);
        x.toll(0, 1);
        CHECK.same("20: the other shorter by 1", 10, x.gap());
        x.street(0, 1, 1, 0, 1);
        CHECK.same("20: a new one shorter by 15", 150, x.gap());
    }

    private static void gapOfWaysThatAreNoMore() {
        TripRounds x = twoStreets();
        x.open(0, false);
        CHECK.same("20: the closed street's volume counts, by the other's time", 0, x.gap());
        x.toll(1, 5);
        CHECK.same("20: less than 0", -50, x.gap());
        x.open(1, false);
        CHECK.same("20: with no way now nothing is less", 150, x.gap());
        x.open(0, true);
        CHECK.same("20: with a way again", 0, x.gap());
    }

    private static void gapOfTheLost() {
        TripRounds x = Towns.pair(2, 10);
        CHECK.same("15: all are lost", 10, x.assign(1));
        CHECK.same("20: without a way", 0, x.gap());
        x.street(0, 1, 7, 0, 1);
        CHECK.same("20: with a way that comes later", 0, x.gap());
        x.assign(1);
        CHECK.same("20: behind an assignment that loses none", 0, x.gap());
        x.toll(0, 1);
        CHECK.same("20: by a toll of all", 0, x.gap());
    }

    private static void gapOfTheLatest() {
        TripRounds x = twoStreets();
        x.toll(0, 1);
        CHECK.same("20: of ten", 10, x.gap());
        x.size(0, 0, 100);
        x.rounds(1, 0);
        CHECK.same("20: whatever the table has now", 10, x.gap());
        x.pull(0, 0, 1, 0);
        CHECK.same("20: whatever the modes are now", 10, x.gap());
        x.assign(1);
        CHECK.same("20: of the latest, which has none", 0, x.gap());
    }

    private static void gapWithoutStreets() {
        TripRounds x = Towns.nodes(2);
        x.zone(0, 10, 0);
        x.zone(0, 0, 10);
        x.zone(1, 0, 0);
        x.rounds(1, 100000);
        x.street(0, 1, 1, 0, 1);
        x.assign(1);
        // 4 stay, 3 go to the zone beside, 3 over the street.
        CHECK.same("16: those that need it", 3, x.flow(0, 0));
        CHECK.same("20: a way without streets takes no time", 0, x.gap());
        x.street(1, 0, 1, 0, 1);
        CHECK.same("20: and none round about", 0, x.gap());
    }

    private static void gapOfEachPair() {
        TripRounds x = Towns.nodes(6);
        for (int i = 0; i < 6; i++) {
            x.zone(i, 6, 6);
        }
        for (int i = 0; i < 30; i++) {
            int from = i / 5;
            x.street(from, (from + 1 + i % 5) % 6, 1, 0, 1);
        }
        x.rounds(1, 0);
        x.assign(1);
        for (int i = 0; i < 30; i++) {
            int from = i / 5;
            CHECK.same("19: each pair on a street of its own", 1, x.link(i, from, (from + 1 + i % 5) % 6));
            CHECK.same("20: each pair has a way", 0, x.gap());
            x.open(i, false);
            // Round about by another node, with one street more: 30 times 1, less 29 times 1 and once 2.
            CHECK.same("20: each pair has another way", -1, x.gap());
            x.open(i, true);
        }
    }

    private static void gapSigns() {
        TripRounds great = Towns.pair(2, 100000);
        great.street(0, 1, 1, 1000, 1);
        great.assign(1);
        great.street(0, 1, 1, 0, 1);
        CHECK.same("20: far beyond an int", 100000L * 999999L, great.gap());
        great.open(1, false);
        CHECK.same("20: the same way", 0, great.gap());
        TripRounds low = Towns.pair(3, 100000);
        low.street(0, 1, 1, 0, 1);
        low.assign(1);
        low.open(0, false);
        low.street(0, 2, 1000, 0, 1);
        low.street(2, 1, 1000, 0, 1);
        low.toll(1, 1000);
        low.toll(2, 1000);
        CHECK.same("20: far below 0", 100000L - 400000000L, low.gap());
        for (int i = 0; i < 9; i++) {
            low.street(0, 1, 999, 0, 1);
        }
        CHECK.same("20: less far", 100000L - 99900000L, low.gap());
    }
}
