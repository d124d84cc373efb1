/** The edges of TO SHARE, ROUNDS and MODES, sentence by sentence: promises 7 to 14. */
public final class RoundsEdgesTest {
    private static final Check CHECK = new Check();

    public static void main(String[] args) {
        nothingToShare();
        nothingToShareIn();
        nothingLeftOver();
        leftOver();
        greatNumbers();
        tableAtFirst();
        toldAtFirst();
        metByExactly();
        metByTheGreatest();
        metByEachZone();
        howManyRounds();
        roundsOfNothing();
        factorAtFirst();
        factorAtLeast();
        factorAtMost();
        factorBetween();
        factorRoundedDown();
        factorWithoutTrips();
        factorUsedLast();
        eachCallAnew();
        sums();
        modes();
        CHECK.end();
    }

    /** The trips from a zone to all, after one round with factors of 1000. */
    private static String shared(int people, int... row) {
        int[] sizes = new int[2 * row.length];
        sizes[0] = people;
        TripRounds x = Towns.atOneNode(sizes);
        Towns.weights(x, 0, row);
        x.rounds(1, 100000);
        return rowOf(x, 0, row.length);
    }

    private static String rowOf(TripRounds x, int from, int zones) {
        StringBuilder text = new StringBuilder();
        for (int to = 0; to < zones; to++) {
            text.append(to == 0 ? "" : " ").append(x.trips(from, to));
        }
        return text.toString();
    }

    private static void nothingToShare() {
        CHECK.text("9: 0 in 1, 1, 1", "0 0 0", shared(0, 1, 1, 1));
        CHECK.text("9: 0 in 0, 0", "0 0", shared(0, 0, 0));
        CHECK.text("9: 0 in the greatest", "0 0", shared(0, 1000, 1000));
    }

    private static void nothingToShareIn() {
        CHECK.text("9: in zeros all get 0", "0 0 0", shared(10, 0, 0, 0));
        CHECK.text("9: in one zero it gets 0", "0", shared(100000, 0));
        CHECK.text("9: in one that is not 0 it gets all", "7", shared(7, 1));
        CHECK.text("9: a zero gets nothing, the first one", "0 4 3", shared(7, 0, 1, 1));
        CHECK.text("9: a zero gets nothing, the last one", "4 3 0", shared(7, 1, 1, 0));
        CHECK.text("9: a zero gets nothing of what is left", "0 1 0", shared(1, 0, 1000, 0));
        TripRounds x = Towns.atOneNode(10, 5, 6, 5);
        x.rounds(1, 0);
        CHECK.text("9: trips before", "5 5", rowOf(x, 0, 2));
        Towns.weights(x, 0, 0, 0);
        x.rounds(1, 0);
        CHECK.text("9: none are left of them in zeros", "0 0", rowOf(x, 0, 2));
        CHECK.text("9: the other zone shares its own", "3 3", rowOf(x, 1, 2));
    }

    private static void nothingLeftOver() {
        CHECK.text("9: 6 in six", "1 1 1 1 1 1", shared(6, 1, 1, 1, 1, 1, 1));
        CHECK.text("9: 12 in 1, 2, 3", "2 4 6", shared(12, 1, 2, 3));
        CHECK.text("9: 100000 in 1, 999", "100 99900", shared(100000, 1, 999));
    }

    private static void leftOver() {
        CHECK.text("9: one for six, to the least place", "1 0 0 0 0 0", shared(1, 1, 1, 1, 1, 1, 1));
        CHECK.text("9: five for six, not to the last place", "1 1 1 1 1 0", shared(5, 1, 1, 1, 1, 1, 1));
        CHECK.text("9: eleven for six, one each and five", "2 2 2 2 2 1", shared(11, 1, 1, 1, 1, 1, 1));
        // 10 by 6: rests 0, 2, 4.
        CHECK.text("9: the greatest rest at the last place", "5 3 2", shared(10, 3, 2, 1));
        // 10 by 7: 20 / 7 rest 6, 10 / 7 rest 3, 40 / 7 rest 5.
        CHECK.text("9: the two greatest rests, not the number between", "3 1 6", shared(10, 2, 1, 4));
        // 5 by 8: 15 / 8 rest 7, 10 / 8 rest 2, 15 / 8 rest 7.
        CHECK.text("9: two equal rests round a lesser one", "2 1 2", shared(5, 3, 2, 3));
        // 3 by 8: 9 / 8 rest 1, 6 / 8 rest 6, 9 / 8 rest 1.
        CHECK.text("9: the rest counts, not what was got", "1 1 1", shared(3, 3, 2, 3));
        // 1 by 5: rests 2, 2, 1.
        CHECK.text("9: of equal rests the lesser place", "1 0 0", shared(1, 2, 2, 1));
    }

    private static void greatNumbers() {
        CHECK.text("9: the most people in the greatest weights", "16667 16667 16667 16667 16666 16666",
                shared(100000, 1000, 1000, 1000, 1000, 1000, 1000));
        // Factors of 1000000 and 1 with weights of 1000: products far beyond an int.
        TripRounds x = Towns.atOneNode(100000, 0, 0, 100000);
        Towns.weights(x, 0, 1000, 1);
        CHECK.same("9: the one gets 99900 at first", -1, x.rounds(1, 0));
        CHECK.same("10: as it does", 99900, x.trips(0, 0));
        CHECK.same("9: then 100, with factors of 1 and 1000000", 2, x.rounds(50, 100));
        CHECK.same("12: the one", 1, x.factor(0));
        CHECK.same("12: the other", 1000000, x.factor(1));
        // 100000 * 1000 / 1001000 is 99, rest 901000; 100000 * 1000000 / 1001000 is 99900, rest 100000.
        CHECK.text("10: which is shared so", "100 99900", rowOf(x, 0, 2));
    }

    private static void tableAtFirst() {
        TripRounds x = Towns.atOneNode(100, 100, 100, 100);
        CHECK.same("10: at first to itself", 0, x.trips(0, 0));
        CHECK.same("10: at first to another", 0, x.trips(1, 0));
        CHECK.same("11: at first from", 0, x.sum(0, 0));
        CHECK.same("11: at first to", 0, x.sum(1, 1));
        CHECK.same("7: a weight is 1 at first", 1, x.weight(1, 0, 1));
        x.rounds(1, 0);
        x.zone(0, 100, 100);
        CHECK.same("10: from a zone that came later", 0, x.sum(2, 0));
        CHECK.same("10: to a zone that came later", 0, x.sum(2, 1));
        CHECK.same("10: what is there stays", 50, x.trips(0, 1));
    }

    private static void toldAtFirst() {
        TripRounds x = Towns.atOneNode(1, 1, 1, 1, 1, 1, 1, 1, 1, 1, 1, 1);
        for (int from = 0; from < 6; from++) {
            for (int to = 0; to < 6; to++) {
                CHECK.same("10: each pair's trips at first", 0, x.trips(from, to));
                CHECK.same("7: each pair's weight at first", 1, x.weight(from, to, 2));
                CHECK.same("13: each pair's pull of mode 0 at first", 1000, x.pull(0, from, to, 3));
                CHECK.same("13: each pair's pull of mode 1 at first", 0, x.pull(1, from, to, 4));
                CHECK.same("13: each pair's pull of mode 2 at first", 0, x.pull(2, from, to, 5));
            }
        }
    }

    private static void metByExactly() {
        TripRounds few = Towns.atOneNode(10, 17);
        CHECK.same("9: too few by 7, told 7", 1, few.rounds(50, 7));
        CHECK.same("9: too few by 7, told 6", -50, few.rounds(50, 6));
        TripRounds many = Towns.atOneNode(17, 10);
        CHECK.same("9: too many by 7, told 7", 1, many.rounds(50, 7));
        CHECK.same("9: too many by 7, told 6", -50, many.rounds(50, 6));
        TripRounds same = Towns.atOneNode(10, 10);
        CHECK.same("9: as many, told 0", 1, same.rounds(50, 0));
        TripRounds one = Towns.atOneNode(10, 11);
        CHECK.same("9: too few by 1, told 0", -50, one.rounds(50, 0));
    }

    private static void metByTheGreatest() {
        TripRounds x = Towns.atOneNode(100000, 100000, 100000, 0);
        Towns.weights(x, 0, 1, 0);
        Towns.weights(x, 1, 1, 0);
        CHECK.same("9: 200000 differ from 100000 by 100000", 1, x.rounds(1, 100000));
        x.size(0, 1, 99999);
        CHECK.same("9: 200000 differ from 99999 by more", -1, x.rounds(1, 100000));
        CHECK.same("11: as all go there", 200000, x.sum(0, 1));
        TripRounds none = Towns.atOneNode(0, 100000);
        CHECK.same("9: 0 differ from 100000 by 100000", 1, none.rounds(1, 100000));
        CHECK.same("9: 0 differ from 100000 by more than 99999", -1, none.rounds(1, 99999));
    }

    private static void metByEachZone() {
        TripRounds last = Towns.atOneNode(9, 3, 0, 3, 0, 4);
        CHECK.same("9: the last zone alone is not met", -1, last.rounds(1, 0));
        TripRounds first = Towns.atOneNode(9, 4, 0, 3, 0, 3);
        CHECK.same("9: the first zone alone is not met", -1, first.rounds(1, 0));
        TripRounds all = Towns.atOneNode(9, 3, 0, 3, 0, 3);
        CHECK.same("9: all are met", 1, all.rounds(1, 0));
        TripRounds both = Towns.atOneNode(8, 6, 0, 2);
        CHECK.same("9: differences are not taken together", -1, both.rounds(1, 1));
        CHECK.same("9: nor added", 1, both.rounds(1, 2));
    }

    private static void howManyRounds() {
        TripRounds x = Towns.atOneNode(10, 3, 0, 7);
        CHECK.same("9: one at most, not met", -1, x.rounds(1, 0));
        CHECK.same("9: met in the last one of two", 2, x.rounds(2, 0));
        CHECK.same("9: met in the second one of three", 2, x.rounds(3, 0));
        x.size(0, 1, 4);
        CHECK.same("9: 50 at most, not met", -50, x.rounds(50, 0));
        CHECK.same("9: 49 at most, not met", -49, x.rounds(49, 0));
        CHECK.same("9: met at once", 1, x.rounds(1, 3));
    }

    private static void roundsOfNothing() {
        TripRounds x = new TripRounds();
        CHECK.same("9: without zones all are met", 1, x.rounds(1, 0));
        CHECK.same("9: at once", 1, x.rounds(50, 100000));
        TripRounds zero = Towns.atOneNode(0, 0, 0, 0);
        CHECK.same("9: without people and jobs all are met", 1, zero.rounds(50, 0));
        CHECK.same("10: by no trips", 0, zero.trips(0, 1));
    }

    private static void factorAtFirst() {
        TripRounds x = new TripRounds();
        x.rounds(5, 0);
        x.node();
        x.zone(0, 1, 1);
        CHECK.same("12: of a zone that came behind rounds of nothing", -1, x.factor(0));
        CHECK.argument("9: refused rounds", () -> x.rounds(0, 0));
        CHECK.same("12: behind refused rounds", -1, x.factor(0));
        x.rounds(1, 0);
        CHECK.same("12: met at once", 1000, x.factor(0));
        x.zone(0, 1, 1);
        CHECK.same("12: of a zone that came later", -1, x.factor(1));
        CHECK.same("12: of the one before", 1000, x.factor(0));
        CHECK.argument("12: of the next one", () -> x.factor(2));
    }

    private static void factorAtLeast() {
        TripRounds x = Towns.atOneNode(10, 0, 0, 10);
        x.rounds(2, 0);
        CHECK.same("12: 1000 * 0 / 5 is 0, so 1", 1, x.factor(0));
        TripRounds one = Towns.atOneNode(1000, 1, 0, 999);
        Towns.weights(one, 0, 1000, 0);
        one.rounds(2, 0);
        CHECK.same("12: 1000 * 1 / 1000 is 1", 1, one.factor(0));
        TripRounds less = Towns.atOneNode(1001, 1, 0, 1000);
        Towns.weights(less, 0, 1000, 0);
        less.rounds(2, 0);
        CHECK.same("12: 1000 * 1 / 1001 is 0, so 1", 1, less.factor(0));
        TripRounds two = Towns.atOneNode(1000, 2, 0, 999);
        Towns.weights(two, 0, 1000, 0);
        two.rounds(2, 0);
        CHECK.same("12: 1000 * 2 / 1000 is 2", 2, two.factor(0));
    }

    /** One trip goes to a zone with so many jobs; its factor in the second round. */
    private static int factorOfOneTrip(int jobs) {
        TripRounds x = Towns.atOneNode(1, jobs, 0, 0);
        Towns.weights(x, 0, 1, 0);
        x.rounds(2, 0);
        return x.factor(0);
    }

    private static void factorAtMost() {
        CHECK.same("12: 1000 * 999 / 1", 999000, factorOfOneTrip(999));
        CHECK.same("12: 1000 * 1000 / 1", 1000000, factorOfOneTrip(1000));
        CHECK.same("12: 1000 * 1001 / 1 is too much", 1000000, factorOfOneTrip(1001));
        CHECK.same("12: 1000 * 100000 / 1 is too much", 1000000, factorOfOneTrip(100000));
        TripRounds x = Towns.atOneNode(1, 100000);
        CHECK.same("9: again and again", -50, x.rounds(50, 0));
        CHECK.same("12: 1000000 * 100000 / 1 is too much", 1000000, x.factor(0));
        TripRounds down = Towns.atOneNode(100000, 0);
        CHECK.same("9: again and again", -50, down.rounds(50, 0));
        CHECK.same("12: 1 * 0 / 100000, so 1", 1, down.factor(0));
    }

    private static void factorBetween() {
        TripRounds x = Towns.atOneNode(50000, 100000);
        CHECK.same("9: half of what is asked", -7, x.rounds(7, 0));
        CHECK.same("12: doubled six times, by products beyond an int", 64000, x.factor(0));
        CHECK.same("9: three more", -10, x.rounds(10, 0));
        CHECK.same("12: doubled nine times", 512000, x.factor(0));
        CHECK.same("9: one more", -11, x.rounds(11, 0));
        CHECK.same("12: 1024000 is too much", 1000000, x.factor(0));
    }

    private static void factorRoundedDown() {
        TripRounds x = Towns.atOneNode(6, 1, 0, 5);
        x.rounds(2, 0);
        CHECK.same("12: 1000 * 1 / 3", 333, x.factor(0));
        CHECK.same("12: 1000 * 5 / 3", 1666, x.factor(1));
        // Each is divided by its own trips: 4, 3 and 3.
        TripRounds each = Towns.atOneNode(10, 1, 0, 1, 0, 8);
        each.rounds(2, 0);
        CHECK.same("12: 1000 * 1 / 4", 250, each.factor(0));
        CHECK.same("12: 1000 * 1 / 3", 333, each.factor(1));
        CHECK.same("12: 1000 * 8 / 3", 2666, each.factor(2));
        TripRounds met = Towns.atOneNode(10, 5, 0, 4);
        met.rounds(2, 0);
        CHECK.same("12: one that is met stays as it is by that", 1000, met.factor(0));
        CHECK.same("12: while another one changes", 800, met.factor(1));
    }

    private static void factorWithoutTrips() {
        TripRounds closed = Towns.atOneNode(10, 3, 0, 7);
        Towns.weights(closed, 0, 1, 0);
        CHECK.same("9: no weight leads there", -2, closed.rounds(2, 0));
        CHECK.same("12: without trips it stays", 1000, closed.factor(1));
        CHECK.same("12: with trips it changes", 300, closed.factor(0));
        CHECK.same("9: however often", -50, closed.rounds(50, 0));
        CHECK.same("12: it stays", 1000, closed.factor(1));
        TripRounds nobody = Towns.atOneNode(0, 5, 0, 0);
        CHECK.same("9: nobody goes", -50, nobody.rounds(50, 0));
        CHECK.same("12: with jobs it stays", 1000, nobody.factor(0));
        CHECK.same("12: without jobs too", 1000, nobody.factor(1));
    }

    private static void factorUsedLast() {
        TripRounds x = Towns.atOneNode(10, 0, 0, 11);
        x.rounds(1, 0);
        CHECK.same("12: not met, as used in the only round", 1000, x.factor(0));
        x.rounds(2, 0);
        CHECK.same("12: not met, as used in the second one", 1, x.factor(0));
        CHECK.same("12: 1000 * 11 / 5", 2200, x.factor(1));
        x.rounds(3, 0);
        // 10 * 2200 / 2201 is 9, rest 2191, and one is left: 10.
        CHECK.same("12: 2200 * 11 / 10", 2420, x.factor(1));
        x.rounds(3, 1);
        CHECK.same("12: met in the second one", 2200, x.factor(1));
    }

    private static void eachCallAnew() {
        TripRounds x = Towns.atOneNode(10, 3, 0, 7);
        CHECK.same("9: once", 2, x.rounds(50, 0));
        CHECK.same("9: once more as long", 2, x.rounds(50, 0));
        CHECK.same("12: to the same", 1400, x.factor(1));
        x.rounds(1, 0);
        CHECK.text("10: factors begin at 1000 again", "5 5", rowOf(x, 0, 2));
    }

    private static void sums() {
        TripRounds x = Towns.atOneNode(8, 0, 6, 0);
        Towns.weights(x, 0, 3, 1);
        Towns.weights(x, 1, 1, 2);
        x.rounds(1, 0);
        CHECK.same("11: from, with those to itself", 8, x.sum(0, 0));
        CHECK.same("11: to, with those from itself", 8, x.sum(0, 1));
        CHECK.same("11: from the last zone", 6, x.sum(1, 0));
        CHECK.same("11: to the last zone", 6, x.sum(1, 1));
        int[] sizes = {100000, 0, 100000, 0, 100000, 0, 100000, 0, 100000, 0, 100000, 0};
        TripRounds most = Towns.atOneNode(sizes);
        for (int from = 0; from < 6; from++) {
            Towns.weights(most, from, 0, 0, 0, 0, 0, 1);
        }
        most.rounds(1, 0);
        CHECK.same("11: all to the last one", 600000, most.sum(5, 1));
        CHECK.same("11: none to the first one", 0, most.sum(0, 1));
    }

    private static String chosen(TripRounds x, int from, int to) {
        return x.chosen(0, from, to) + " " + x.chosen(1, from, to) + " " + x.chosen(2, from, to);
    }

    private static void pulls(TripRounds x, int first, int second, int third) {
        x.pull(0, 0, 1, first);
        x.pull(1, 0, 1, second);
        x.pull(2, 0, 1, third);
    }

    private static void modes() {
        TripRounds x = Towns.pair(2, 10);
        CHECK.text("14: at first all by mode 0", "10 0 0", chosen(x, 0, 1));
        CHECK.text("14: of no trips none", "0 0 0", chosen(x, 1, 0));
        pulls(x, 0, 0, 0);
        CHECK.text("14: without pulls none", "0 0 0", chosen(x, 0, 1));
        CHECK.same("10: but the table stays", 10, x.trips(0, 1));
        pulls(x, 0, 0, 1);
        CHECK.text("14: all by the last mode", "0 0 10", chosen(x, 0, 1));
        pulls(x, 1000, 1000, 1000);
        CHECK.text("14: one is left, for the least mode", "4 3 3", chosen(x, 0, 1));
        pulls(x, 0, 1000, 1000);
        CHECK.text("14: none is left", "0 5 5", chosen(x, 0, 1));
        pulls(x, 1, 1, 1000);
        // 10 by 1002: rests 10, 10 and 982.
        CHECK.text("14: the greatest rest", "0 0 10", chosen(x, 0, 1));
        pulls(x, 1000, 1, 1);
        CHECK.text("14: the greatest rest at the first place", "10 0 0", chosen(x, 0, 1));
        // 10 by 8: 30 / 8 rest 6, 30 / 8 rest 6, 20 / 8 rest 4.
        pulls(x, 3, 3, 2);
        CHECK.text("14: two are left, one each", "4 4 2", chosen(x, 0, 1));
        x.zone(0, 5, 0);
        CHECK.same("13: of a zone that came later", 1000, x.pull(0, 2, 2, 1));
        CHECK.same("13: of a zone that came later", 0, x.pull(1, 2, 1, 1));
        CHECK.same("13: of a zone that came later", 0, x.pull(2, 0, 2, 1));
    }
}
