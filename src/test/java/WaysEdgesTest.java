/** The edges of TIME and WAYS, sentence by sentence: promises 2 to 6 and 16 to 18. */
public final class WaysEdgesTest {
    private static final Check CHECK = new Check();

    public static void main(String[] args) {
        nodesAsTheyCome();
        zonesAsTheyCome();
        streetsAsTheyCome();
        timeWhenEmpty();
        timeRoundedDown();
        timeAtMost();
        timesTogether();
        wayWithoutStreets();
        noWay();
        leastTime();
        fewestStreets();
        lesserStreet();
        openAndClosed();
        streetsOfAWay();
        longestWay();
        fullTown();
        CHECK.end();
    }

    /** The least way's streets behind its time. */
    private static String wayOf(TripRounds x, int from, int to) {
        StringBuilder text = new StringBuilder().append(x.least(from, to)).append(':');
        int k = 0;
        for (int street = x.way(from, to, 0); street != TripRounds.NONE; street = x.way(from, to, k)) {
            text.append(' ').append(street);
            k++;
        }
        return text.toString();
    }

    private static void nodesAsTheyCome() {
        TripRounds x = new TripRounds();
        CHECK.argument("18: no node yet", () -> x.least(0, 0));
        for (int i = 0; i < 12; i++) {
            int next = i + 1;
            CHECK.same("2: node", i, x.node());
            CHECK.same("18: it is there", 0, x.least(i, i));
            CHECK.argument("18: the next one is not", () -> x.least(next, next));
        }
        CHECK.state("2: there are 12", x::node);
        CHECK.state("2: there are 12 still", x::node);
    }

    private static void zonesAsTheyCome() {
        TripRounds x = Towns.nodes(1);
        CHECK.argument("11: no zone yet", () -> x.sum(0, 0));
        for (int i = 0; i < 6; i++) {
            int next = i + 1;
            CHECK.same("3: zone", i, x.zone(0, 10 * i, 20 * i));
            CHECK.same("11: it is there", 0, x.sum(i, 0));
            CHECK.argument("11: the next one is not", () -> x.sum(next, 0));
        }
        CHECK.state("3: there are 6", () -> x.zone(0, 1, 1));
        CHECK.state("3: there are 6 still", () -> x.zone(0, 1, 1));
        for (int i = 0; i < 6; i++) {
            CHECK.same("3: its people", 10 * i, x.size(i, 0, 0));
            CHECK.same("3: its jobs", 20 * i, x.size(i, 1, 0));
        }
    }

    private static void streetsAsTheyCome() {
        TripRounds x = Towns.nodes(2);
        CHECK.argument("16: no street yet", () -> x.flow(0, 0));
        for (int i = 0; i < 40; i++) {
            int next = i + 1;
            CHECK.same("4: street", i, x.street(i % 2, 1 - i % 2, i + 1, 0, 1));
            CHECK.same("4: its free", i + 1, x.flow(i, 1));
            CHECK.argument("16: the next one is not there", () -> x.flow(next, 0));
        }
        CHECK.state("4: there are 40", () -> x.street(0, 1, 1, 0, 1));
        CHECK.state("4: there are 40 still", () -> x.street(0, 1, 1, 0, 1));
        for (int i = 0; i < 40; i++) {
            CHECK.same("16: its volume at first", 0, x.flow(i, 0));
            CHECK.same("5: its toll at first", 0, x.toll(i, 1));
            CHECK.same("6: open at first", 1, x.open(i, true) ? 1 : 0);
            CHECK.same("21: its count at first", -1, x.count(i, 1));
        }
    }

    /** A street of so many trips, and its time. */
    private static int timeAt(int trips, int free, int slope, int room, int toll) {
        TripRounds x = Towns.pair(2, trips);
        x.street(0, 1, free, slope, room);
        x.toll(0, toll);
        x.assign(1);
        return x.flow(0, 1);
    }

    private static void timeWhenEmpty() {
        CHECK.same("16: the least", 1, timeAt(0, 1, 0, 1, 0));
        CHECK.same("16: the greatest when empty", 2000, timeAt(0, 1000, 1000, 1, 1000));
        CHECK.same("16: without slope", 7, timeAt(100000, 7, 0, 1, 0));
    }

    private static void timeRoundedDown() {
        CHECK.same("16: 1 * 9 / 10", 5, timeAt(9, 5, 1, 10, 0));
        CHECK.same("16: 1 * 10 / 10", 6, timeAt(10, 5, 1, 10, 0));
        CHECK.same("16: 1 * 19 / 10", 6, timeAt(19, 5, 1, 10, 0));
        CHECK.same("16: 1 * 20 / 10", 7, timeAt(20, 5, 1, 10, 0));
        CHECK.same("16: 3 * 3 / 2, multiplied first", 9, timeAt(3, 5, 3, 2, 0));
        CHECK.same("16: the greatest room and slope, 999", 1, timeAt(999, 1, 1000, 1000000, 0));
        CHECK.same("16: the greatest room and slope, 1000", 2, timeAt(1000, 1, 1000, 1000000, 0));
        CHECK.same("16: the greatest room, slope and volume", 101, timeAt(100000, 1, 1000, 1000000, 0));
        CHECK.same("16: toll and free are not divided", 1106, timeAt(1, 106, 1, 1000000, 1000));
    }

    private static void timeAtMost() {
        CHECK.same("16: 998000 and 1000 and 999", 999999, timeAt(998, 1000, 1000, 1, 999));
        CHECK.same("16: 998000 and 1000 and 1000", 1000000, timeAt(998, 1000, 1000, 1, 1000));
        CHECK.same("16: 999000 and 1000 and 1", 1000000, timeAt(999, 1000, 1000, 1, 1));
        CHECK.same("16: 999000 and 999", 999999, timeAt(999, 999, 1000, 1, 0));
        CHECK.same("16: 999000 and 1000", 1000000, timeAt(999, 1000, 1000, 1, 0));
        CHECK.same("16: 1000000 and 1", 1000000, timeAt(1000, 1, 1000, 1, 0));
        CHECK.same("16: 100000000, 1000 and 1000", 1000000, timeAt(100000, 1000, 1000, 1, 1000));
    }

    private static void timesTogether() {
        TripRounds x = Towns.pair(12, 100000);
        for (int i = 2; i < 12; i++) {
            x.street(i == 2 ? 0 : i - 1, i, 1, 1000, 1);
        }
        x.street(11, 1, 1, 1000, 1);
        x.assign(1);
        CHECK.same("16: each has 1000000 at most", 1000000, x.flow(10, 1));
        CHECK.same("18: eleven of them together have more", 11000000, x.least(0, 1));
        CHECK.same("20: all went so", 0, x.gap());
        x.street(0, 1, 1, 0, 1);
        CHECK.same("20: and now have another way", 100000L * 11000000L - 100000L, x.gap());
    }

    private static void wayWithoutStreets() {
        TripRounds x = Towns.nodes(2);
        CHECK.text("17: to itself, without any streets", "0:", wayOf(x, 0, 0));
        x.street(0, 1, 1, 0, 1);
        x.street(1, 0, 1, 0, 1);
        CHECK.text("17: to itself, not round about", "0:", wayOf(x, 0, 0));
        CHECK.same("17: nor street 0", -1, x.way(0, 0, 0));
        CHECK.same("17: nor any other", -1, x.way(1, 1, Integer.MAX_VALUE));
        x.open(0, false);
        x.open(1, false);
        CHECK.text("17: to itself with all closed", "0:", wayOf(x, 1, 1));
    }

    private static void noWay() {
        TripRounds x = Towns.nodes(4);
        CHECK.text("17: no streets", "-1:", wayOf(x, 0, 3));
        x.street(3, 0, 1, 0, 1);
        CHECK.text("17: the other way round alone", "-1:", wayOf(x, 0, 3));
        x.street(0, 1, 1, 0, 1);
        x.street(2, 3, 1, 0, 1);
        CHECK.text("17: two ends that do not meet", "-1:", wayOf(x, 0, 3));
        x.street(2, 1, 1, 0, 1);
        CHECK.text("17: two ends that meet the wrong way", "-1:", wayOf(x, 0, 3));
        x.street(1, 2, 1, 0, 1);
        CHECK.text("17: all joined", "3: 1 4 2", wayOf(x, 0, 3));
        CHECK.text("17: and back", "1: 0", wayOf(x, 3, 0));
    }

    private static void leastTime() {
        TripRounds x = Towns.nodes(4);
        x.street(0, 3, 10, 0, 1);
        x.street(0, 1, 3, 0, 1);
        x.street(1, 2, 3, 0, 1);
        x.street(2, 3, 3, 0, 1);
        CHECK.text("17: less by 1 over more and greater streets", "9: 1 2 3", wayOf(x, 0, 3));
        x.toll(2, 1);
        CHECK.text("17: as long, the fewest", "10: 0", wayOf(x, 0, 3));
        x.toll(0, 1);
        CHECK.text("17: less by 1 again", "10: 1 2 3", wayOf(x, 0, 3));
        x.toll(0, 1000);
        x.toll(1, 1000);
        CHECK.text("17: with the greatest tolls", "1010: 0", wayOf(x, 0, 3));
    }

    private static void fewestStreets() {
        TripRounds x = Towns.nodes(4);
        x.street(0, 1, 1, 0, 1);
        x.street(1, 2, 1, 0, 1);
        x.street(2, 3, 2, 0, 1);
        x.street(1, 3, 3, 0, 1);
        x.street(0, 3, 4, 0, 1);
        CHECK.text("17: one street of three ways as long", "4: 4", wayOf(x, 0, 3));
        x.open(4, false);
        CHECK.text("17: two streets of two ways as long", "4: 0 3", wayOf(x, 0, 3));
        x.open(3, false);
        CHECK.text("17: three streets", "4: 0 1 2", wayOf(x, 0, 3));
    }

    private static void lesserStreet() {
        TripRounds x = Towns.nodes(4);
        x.street(2, 3, 1, 0, 1);
        x.street(0, 1, 1, 0, 1);
        x.street(0, 2, 1, 0, 1);
        x.street(1, 3, 1, 0, 1);
        x.street(1, 3, 1, 0, 1);
        x.street(0, 1, 1, 0, 1);
        CHECK.text("17: the first place counts first", "2: 1 3", wayOf(x, 0, 3));
        x.open(3, false);
        CHECK.text("17: the second place, if the first is the same", "2: 1 4", wayOf(x, 0, 3));
        x.open(1, false);
        CHECK.text("17: the lesser one of what is left", "2: 2 0", wayOf(x, 0, 3));
        x.open(2, false);
        CHECK.text("17: the greatest one at last", "2: 5 4", wayOf(x, 0, 3));
        TripRounds ends = Towns.nodes(2);
        for (int i = 0; i < 40; i++) {
            ends.street(0, 1, 7, 0, 1);
        }
        CHECK.text("17: of forty the least", "7: 0", wayOf(ends, 0, 1));
        for (int i = 0; i < 39; i++) {
            ends.open(i, false);
        }
        CHECK.text("17: the last one alone", "7: 39", wayOf(ends, 0, 1));
    }

    private static void openAndClosed() {
        TripRounds x = Towns.pair(2, 10);
        x.street(0, 1, 5, 1, 1);
        x.street(0, 1, 20, 0, 1);
        x.assign(1);
        CHECK.same("6: it was open", 1, x.open(0, false) ? 1 : 0);
        CHECK.same("6: its volume stays", 10, x.flow(0, 0));
        CHECK.same("6: its time stays", 15, x.flow(0, 1));
        CHECK.same("6: its link stays", 10, x.link(0, 0, 1));
        CHECK.same("6: its table stays", 10, x.trips(0, 1));
        CHECK.text("6: but no way leads over it", "20: 1", wayOf(x, 0, 1));
        CHECK.same("6: closed, it was closed", 0, x.open(0, false) ? 1 : 0);
        CHECK.same("6: open, it was closed", 0, x.open(0, true) ? 1 : 0);
        CHECK.same("6: open, it was open", 1, x.open(0, true) ? 1 : 0);
        CHECK.text("6: a way leads over it", "15: 0", wayOf(x, 0, 1));
        x.open(0, false);
        CHECK.same("5: a closed one has a toll", 0, x.toll(0, 3));
        CHECK.same("16: with a time", 18, x.flow(0, 1));
        CHECK.same("21: and a count", -1, x.count(0, 3));
    }

    private static void streetsOfAWay() {
        TripRounds x = Towns.nodes(3);
        x.street(0, 1, 1, 0, 1);
        x.street(1, 2, 1, 0, 1);
        CHECK.same("17: the first one", 0, x.way(0, 2, 0));
        CHECK.same("17: the last one", 1, x.way(0, 2, 1));
        for (int k = 2; k < 60; k++) {
            CHECK.same("17: one that it has not", -1, x.way(0, 2, k));
        }
        for (int bit = 6; bit < 31; bit++) {
            CHECK.same("17: one far beyond", -1, x.way(0, 2, 1 << bit));
        }
        CHECK.same("17: the greatest that it has not", -1, x.way(0, 2, Integer.MAX_VALUE));
        CHECK.argument("17: below 0", () -> x.way(0, 2, -1));
        CHECK.argument("17: far below 0", () -> x.way(0, 2, Integer.MIN_VALUE));
        CHECK.argument("17: below 0 to itself", () -> x.way(0, 0, -1));
        CHECK.argument("17: below 0 where there is no way", () -> x.way(2, 0, -1));
    }

    private static void longestWay() {
        TripRounds x = Towns.nodes(12);
        for (int i = 0; i < 11; i++) {
            x.street(i, i + 1, 1000, 0, 1);
        }
        x.street(11, 0, 1, 0, 1);
        CHECK.text("17: through all nodes", "11000: 0 1 2 3 4 5 6 7 8 9 10", wayOf(x, 0, 11));
        CHECK.text("17: from another one on", "10001: 1 2 3 4 5 6 7 8 9 10 11", wayOf(x, 1, 0));
        CHECK.text("17: one back is all but one round", "10001: 11 0 1 2 3 4 5 6 7 8 9", wayOf(x, 11, 10));
        for (int i = 0; i < 11; i++) {
            x.toll(i, 1000);
        }
        CHECK.same("18: with tolls", 22000, x.least(0, 11));
    }

    private static void fullTown() {
        TripRounds x = Towns.full();
        CHECK.state("2: node", x::node);
        CHECK.state("3: zone", () -> x.zone(11, 1, 1));
        CHECK.state("4: street", () -> x.street(11, 10, 1, 1, 1));
        CHECK.same("5: the last street's toll", 5, x.toll(39, 6));
        CHECK.same("6: the last street", 1, x.open(39, false) ? 1 : 0);
        CHECK.same("7: the last pair's weight", 1, x.weight(5, 5, 2));
        CHECK.same("8: the last zone's people", 1500, x.size(5, 0, 2));
        CHECK.same("8: the last zone's jobs", 1000, x.size(5, 1, 2));
        CHECK.same("13: the last pair's pull", 0, x.pull(2, 5, 5, 2));
        CHECK.same("18: the last node", 0, x.least(11, 11));
        CHECK.same("21: the last street's count", 70 * 39 + 9, x.count(39, 2));
    }
}
