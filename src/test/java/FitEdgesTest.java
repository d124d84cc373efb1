/** The edges of COUNTS and FITTING, sentence by sentence: promises 21 and 22. */
public final class FitEdgesTest {
    private static final Check CHECK = new Check();

    public static void main(String[] args) {
        countsAtFirst();
        nothingWasAssigned();
        noStreetDiffers();
        volumeIsNothing();
        emptyOneIsLookedAt();
        countOfNothing();
        countsThatAreTakenBack();
        differsMost();
        ofSeveralTheLeast();
        soManyTimes();
        roundedDown();
        atMost();
        pairsOfWhichSomeUsedIt();
        ownTripsStay();
        asManyParts();
        tableOfNow();
        closedSince();
        streetsThatCameLater();
        modesGrowTogether();
        whatIsLeftBehind();
        CHECK.end();
    }

    /** So many trips on one street. */
    private static TripRounds oneStreet(int trips) {
        TripRounds x = Towns.pair(2, trips);
        x.street(0, 1, 1, 0, 1);
        x.assign(1);
        return x;
    }

    /** Zones 0 to 1 on street 0, zones 2 to 3 on street 1, each so many trips. */
    private static TripRounds twoStreets(int first, int second) {
        TripRounds x = Towns.nodes(4);
        x.zone(0, first, 0);
        x.zone(1, 0, first);
        x.zone(2, second, 0);
        x.zone(3, 0, second);
        Towns.weights(x, 0, 0, 1, 0, 0);
        Towns.weights(x, 2, 0, 0, 0, 1);
        x.street(0, 1, 1, 0, 1);
        x.street(2, 3, 1, 0, 1);
        x.rounds(1, 0);
        x.assign(1);
        return x;
    }

    private static String volumes(TripRounds x) {
        return x.flow(0, 0) + " " + x.flow(1, 0);
    }

    private static void countsAtFirst() {
        TripRounds x = oneStreet(10);
        CHECK.same("21: none at first", TripRounds.NONE, x.count(0, 1000000));
        CHECK.same("21: the greatest", 1000000, x.count(0, 0));
        CHECK.same("21: 0 is one", 0, x.count(0, TripRounds.NONE));
        CHECK.same("21: none again", TripRounds.NONE, x.count(0, 5));
        CHECK.argument("21: below none", () -> x.count(0, -2));
        CHECK.argument("21: beyond the greatest", () -> x.count(0, 1000001));
        CHECK.same("21: it stays", 5, x.count(0, 5));
        CHECK.same("16: a count alone changes no volume", 10, x.flow(0, 0));
        CHECK.same("10: nor trips", 10, x.trips(0, 1));
    }

    private static void nothingWasAssigned() {
        TripRounds x = Towns.pair(2, 10);
        x.street(0, 1, 1, 0, 1);
        x.count(0, 20);
        CHECK.state("22: once", () -> x.fit(1));
        CHECK.state("22: most often", () -> x.fit(20));
        CHECK.argument("22: not often enough", () -> x.fit(0));
        CHECK.argument("22: too often", () -> x.fit(21));
        CHECK.same("10: trips stay", 10, x.trips(0, 1));
        CHECK.same("16: volumes stay", 0, x.flow(0, 0));
        x.assign(1);
        CHECK.same("22: when something was", 1, x.fit(20));
        CHECK.same("10: trips change", 20, x.trips(0, 1));
        TripRounds empty = Towns.pair(2, 0);
        empty.assign(8);
        CHECK.same("22: an assignment of no trips is one", 0, empty.fit(20));
        TripRounds lost = Towns.pair(2, 10);
        lost.assign(8);
        CHECK.same("22: so is one that loses all", 0, lost.fit(20));
    }

    private static void noStreetDiffers() {
        TripRounds x = oneStreet(10);
        CHECK.same("22: without a count", 0, x.fit(20));
        x.count(0, 10);
        CHECK.same("22: with its volume as count", 0, x.fit(20));
        CHECK.same("10: trips stay", 10, x.trips(0, 1));
        x.count(0, 11);
        CHECK.same("22: by 1 more", 1, x.fit(20));
        x.count(0, 10);
        CHECK.same("22: by 1 less", 1, x.fit(20));
        CHECK.same("10: there and back", 10, x.trips(0, 1));
    }

    private static void volumeIsNothing() {
        TripRounds x = oneStreet(0);
        x.count(0, 1);
        CHECK.same("22: an empty street with a count", 0, x.fit(20));
        x.count(0, 1000000);
        CHECK.same("22: with the greatest count", 0, x.fit(20));
        x.count(0, 0);
        CHECK.same("22: with a count of 0, which does not differ", 0, x.fit(20));
        CHECK.same("10: trips stay", 0, x.trips(0, 1));
    }

    private static void emptyOneIsLookedAt() {
        TripRounds x = twoStreets(0, 10);
        x.count(0, 5);
        x.count(1, 5);
        CHECK.same("22: as far, the lesser one is empty: it ends", 0, x.fit(20));
        CHECK.text("16: the other is not fitted", "0 10", volumes(x));
        x.count(0, 4);
        CHECK.same("22: less far: the other is fitted, then it ends", 1, x.fit(20));
        CHECK.text("16: the other is fitted", "0 5", volumes(x));
        TripRounds last = twoStreets(10, 0);
        last.count(0, 5);
        last.count(1, 5);
        CHECK.same("22: as far, the greater one is empty: once", 1, last.fit(20));
        CHECK.text("16: the lesser one is fitted", "5 0", volumes(last));
    }

    private static void countOfNothing() {
        TripRounds x = oneStreet(10);
        x.count(0, 0);
        CHECK.same("22: to a count of 0", 1, x.fit(20));
        CHECK.same("10: no trips are left", 0, x.trips(0, 1));
        CHECK.same("16: nor a volume", 0, x.flow(0, 0));
        CHECK.same("19: nor a link", 0, x.link(0, 0, 1));
        x.count(0, 10);
        CHECK.same("22: none come back", 0, x.fit(20));
    }

    private static void countsThatAreTakenBack() {
        TripRounds x = twoStreets(10, 10);
        x.count(0, 20);
        x.count(1, 15);
        x.count(0, TripRounds.NONE);
        CHECK.same("22: the one that has one still", 1, x.fit(20));
        CHECK.text("16: alone", "10 15", volumes(x));
    }

    private static void differsMost() {
        TripRounds above = twoStreets(10, 10);
        above.count(0, 5);
        above.count(1, 16);
        CHECK.same("22: below its count by 6, not above by 5", 1, above.fit(1));
        CHECK.text("16: the second", "10 16", volumes(above));
        TripRounds below = twoStreets(10, 10);
        below.count(0, 15);
        below.count(1, 4);
        CHECK.same("22: above its count by 6, not below by 5", 1, below.fit(1));
        CHECK.text("16: the second", "10 4", volumes(below));
        TripRounds first = twoStreets(10, 10);
        first.count(0, 16);
        first.count(1, 5);
        CHECK.same("22: the first by 6", 1, first.fit(1));
        CHECK.text("16: the first", "16 10", volumes(first));
        TripRounds share = twoStreets(100, 10);
        share.count(0, 111);
        share.count(1, 20);
        CHECK.same("22: by 11, though the other differs by its whole", 1, share.fit(1));
        CHECK.text("16: the first", "111 10", volumes(share));
    }

    private static void ofSeveralTheLeast() {
        TripRounds x = twoStreets(10, 10);
        x.count(0, 7);
        x.count(1, 13);
        CHECK.same("22: both by 3", 1, x.fit(1));
        CHECK.text("16: the first", "7 10", volumes(x));
        CHECK.same("22: now the other", 1, x.fit(1));
        CHECK.text("16: both", "7 13", volumes(x));
        CHECK.same("22: now none", 0, x.fit(1));
    }

    private static void soManyTimes() {
        TripRounds x = twoStreets(10, 10);
        x.count(0, 20);
        x.count(1, 30);
        CHECK.same("22: once of two", 1, x.fit(1));
        CHECK.text("16: the farthest", "10 30", volumes(x));
        CHECK.same("22: what is left of two", 1, x.fit(2));
        CHECK.text("16: both", "20 30", volumes(x));
        TripRounds swing = swinging();
        CHECK.same("22: 20 times at most", 20, swing.fit(20));
        CHECK.same("22: 19 times", 19, swing.fit(19));
        CHECK.same("22: once", 1, swing.fit(1));
    }

    /** Two counts on the same trips, of which only one can be met. */
    private static TripRounds swinging() {
        TripRounds x = Towns.pair(3, 10);
        x.street(0, 2, 1, 0, 1);
        x.street(2, 1, 1, 0, 1);
        x.assign(1);
        x.count(0, 10);
        x.count(1, 20);
        return x;
    }

    private static void roundedDown() {
        TripRounds x = Towns.nodes(3);
        x.zone(0, 5, 0);
        x.zone(1, 6, 0);
        x.zone(2, 0, 11);
        Towns.weights(x, 0, 0, 0, 1);
        Towns.weights(x, 1, 0, 0, 1);
        x.street(0, 1, 1, 0, 1);
        x.street(1, 2, 1, 0, 1);
        x.rounds(1, 0);
        x.assign(1);
        x.count(1, 10);
        CHECK.same("22: once", 1, x.fit(1));
        CHECK.same("10: 5 * 10 / 11", 4, x.trips(0, 2));
        CHECK.same("10: 6 * 10 / 11", 5, x.trips(1, 2));
        CHECK.same("16: one less than counted", 9, x.flow(1, 0));
        CHECK.same("22: and so again", 1, x.fit(1));
        CHECK.same("10: 4 * 10 / 9", 4, x.trips(0, 2));
        CHECK.same("10: 5 * 10 / 9", 5, x.trips(1, 2));
        CHECK.same("22: trips that stay by that are counted too", 20, x.fit(20));
        TripRounds down = oneStreet(3);
        down.count(0, 1);
        CHECK.same("22: 3 * 1 / 3", 1, down.fit(20));
        CHECK.same("10: is 1", 1, down.trips(0, 1));
    }

    /** So many trips of which a thousandth uses the street, fitted once to that count. */
    private static int grownTo(int trips, int count) {
        TripRounds x = Towns.pair(2, trips);
        x.street(0, 1, 1, 0, 1);
        x.pull(0, 0, 1, 1);
        x.pull(1, 0, 1, 999);
        x.assign(1);
        x.count(0, count);
        x.fit(1);
        return x.trips(0, 1);
    }

    private static void atMost() {
        CHECK.same("22: 100000 * 999 / 100", 999000, grownTo(100000, 999));
        CHECK.same("22: 100000 * 1000 / 100", 1000000, grownTo(100000, 1000));
        CHECK.same("22: 100000 * 1001 / 100 is too much", 1000000, grownTo(100000, 1001));
        CHECK.same("22: 100000 * 1000000 / 100 is too much", 1000000, grownTo(100000, 1000000));
        TripRounds x = oneStreet(1);
        x.count(0, 1000000);
        CHECK.same("22: 1 * 1000000 / 1", 1, x.fit(20));
        CHECK.same("10: the most that is counted", 1000000, x.trips(0, 1));
        CHECK.same("22: which does not differ", 0, x.fit(20));
        x.pull(1, 0, 1, 1000);
        x.assign(1);
        CHECK.same("22: half of the most differs for ever", 20, x.fit(20));
        CHECK.same("10: and stays the most", 1000000, x.trips(0, 1));
    }

    private static void pairsOfWhichSomeUsedIt() {
        TripRounds x = Towns.nodes(3);
        x.zone(0, 8, 0);
        x.zone(1, 6, 0);
        x.zone(2, 0, 14);
        Towns.weights(x, 0, 0, 0, 1);
        Towns.weights(x, 1, 0, 0, 1);
        x.street(0, 2, 1, 1000, 1);
        x.street(0, 2, 5, 0, 1);
        x.street(1, 2, 1, 0, 1);
        x.rounds(1, 0);
        x.assign(4);
        CHECK.same("19: a fourth used it", 2, x.link(0, 0, 2));
        CHECK.same("19: the rest did not", 6, x.link(1, 0, 2));
        x.count(0, 3);
        CHECK.same("22: once", 1, x.fit(20));
        CHECK.same("10: all of that pair grow, 8 * 3 / 2", 12, x.trips(0, 2));
        CHECK.same("10: those of the other pair stay", 6, x.trips(1, 2));
        CHECK.same("16: a fourth uses it again", 3, x.flow(0, 0));
    }

    private static void ownTripsStay() {
        TripRounds x = Towns.nodes(2);
        x.zone(0, 10, 0);
        x.zone(1, 10, 0);
        x.zone(0, 10, 0);
        Towns.weights(x, 0, 1, 1, 0);
        Towns.weights(x, 1, 0, 1, 0);
        Towns.weights(x, 2, 1, 0, 0);
        x.street(0, 1, 1, 0, 1);
        x.rounds(1, 0);
        x.assign(1);
        x.count(0, 15);
        CHECK.same("22: once", 1, x.fit(20));
        CHECK.same("10: those that used it", 15, x.trips(0, 1));
        CHECK.same("10: those to itself", 5, x.trips(0, 0));
        CHECK.same("10: those to itself at the other end", 10, x.trips(1, 1));
        CHECK.same("10: those without streets", 10, x.trips(2, 0));
    }

    private static void asManyParts() {
        TripRounds x = Towns.pair(2, 8);
        x.street(0, 1, 1, 1000, 1);
        x.street(0, 1, 5, 0, 1);
        x.assign(1);
        x.assign(8);
        x.count(0, 2);
        CHECK.same("22: in eight parts", 1, x.fit(1));
        CHECK.text("16: an eighth of 16", "2 14", volumes(x));
        x.assign(1);
        x.count(0, 4);
        CHECK.same("22: in one part", 1, x.fit(1));
        CHECK.text("16: all of 4", "4 0", volumes(x));
        CHECK.argument("15: refused parts", () -> x.assign(9));
        x.count(0, 8);
        CHECK.same("22: in one part still", 1, x.fit(1));
        CHECK.text("16: all of 8", "8 0", volumes(x));
    }

    private static void tableOfNow() {
        TripRounds x = oneStreet(10);
        x.size(0, 0, 100);
        x.rounds(1, 0);
        x.count(0, 30);
        CHECK.same("22: once by the volume of the latest assignment", 1, x.fit(1));
        CHECK.same("10: 100 * 30 / 10", 300, x.trips(0, 1));
        CHECK.same("16: and assigned", 300, x.flow(0, 0));
        x.size(0, 0, 0);
        x.rounds(1, 0);
        CHECK.same("22: trips that are none now are changed too", 1, x.fit(20));
        CHECK.same("10: to none", 0, x.trips(0, 1));
        CHECK.same("16: and assigned so", 0, x.flow(0, 0));
    }

    private static void closedSince() {
        TripRounds x = oneStreet(10);
        x.open(0, false);
        x.count(0, 30);
        CHECK.same("22: a closed street that was used", 1, x.fit(20));
        CHECK.same("10: its trips change", 30, x.trips(0, 1));
        CHECK.same("16: and are lost", 0, x.flow(0, 0));
        CHECK.same("15: as many", 30, x.assign(1));
    }

    private static void streetsThatCameLater() {
        TripRounds x = oneStreet(10);
        x.street(0, 1, 1, 0, 1);
        x.count(1, 30);
        CHECK.same("22: a new street is empty", 0, x.fit(20));
        x.count(0, 31);
        CHECK.same("22: by 30, where the old one differs by 21", 0, x.fit(20));
        x.count(0, 41);
        CHECK.same("22: the old one by 31, then the new one ends it", 1, x.fit(20));
        CHECK.text("16: the old one is fitted", "41 0", volumes(x));
        x.zone(1, 5, 5);
        x.count(0, 10);
        x.count(1, 0);
        CHECK.same("22: with a new zone", 1, x.fit(20));
        CHECK.same("10: which has no trips", 0, x.sum(2, 0) + x.sum(2, 1));
    }

    private static void modesGrowTogether() {
        TripRounds x = Towns.pair(2, 10);
        x.street(0, 1, 1, 0, 1);
        x.pull(1, 0, 1, 1000);
        x.assign(1);
        CHECK.same("16: half of them", 5, x.flow(0, 0));
        x.count(0, 15);
        CHECK.same("22: once", 1, x.fit(20));
        CHECK.same("10: all grow", 30, x.trips(0, 1));
        CHECK.same("14: the others too", 15, x.chosen(1, 0, 1));
        CHECK.same("16: half of them", 15, x.flow(0, 0));
        x.pull(0, 0, 1, 0);
        x.assign(1);
        CHECK.same("22: none uses it, so it ends", 0, x.fit(20));
        CHECK.same("10: trips stay", 30, x.trips(0, 1));
    }

    private static void whatIsLeftBehind() {
        TripRounds x = oneStreet(10);
        x.count(0, 25);
        x.fit(1);
        CHECK.same("8: people stay", 10, x.size(0, 0, 10));
        CHECK.same("11: the table's sum does not", 25, x.sum(0, 0));
        CHECK.same("11: nor the other one", 25, x.sum(1, 1));
        CHECK.same("12: factors stay", 1000, x.factor(1));
        CHECK.same("21: the count stays", 25, x.count(0, 25));
        CHECK.same("20: of what is assigned now", 0, x.gap());
        x.rounds(1, 0);
        CHECK.same("9: rounds make the table anew", 10, x.trips(0, 1));
        CHECK.same("16: but no volume", 25, x.flow(0, 0));
    }
}
