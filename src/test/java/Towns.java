/** Towns that tests begin with. Each takes well under 150 calls, of the 512 that an object is promised for. */
final class Towns {
    private Towns() {
    }

    /** So many nodes, and nothing else. */
    static TripRounds nodes(int many) {
        TripRounds x = new TripRounds();
        for (int i = 0; i < many; i++) {
            x.node();
        }
        return x;
    }

    /** Zones at one node, each with people and jobs as they come in the row. */
    static TripRounds atOneNode(int... sizes) {
        TripRounds x = nodes(1);
        for (int i = 0; i + 1 < sizes.length; i += 2) {
            x.zone(0, sizes[i], sizes[i + 1]);
        }
        return x;
    }

    /** Zone 0 at node 0, from where so many go to zone 1 at node 1; no street yet. */
    static TripRounds pair(int nodes, int trips) {
        TripRounds x = nodes(nodes);
        x.zone(0, trips, 0);
        x.zone(1, 0, trips);
        x.weight(0, 0, 0);
        x.rounds(1, 0);
        return x;
    }

    /** A zone's weights to all zones, in their order. */
    static void weights(TripRounds x, int from, int... row) {
        for (int to = 0; to < row.length; to++) {
            x.weight(from, to, row[to]);
        }
    }

    /** A town in the midst of its use, with something told for everything, and room for more: 5, 4, 7. */
    static TripRounds middle() {
        TripRounds x = nodes(5);
        x.zone(0, 300, 100);
        x.zone(1, 200, 250);
        x.zone(3, 100, 250);
        x.street(0, 1, 5, 10, 50);
        x.street(1, 2, 4, 3, 20);
        x.street(2, 3, 6, 2, 10);
        x.street(0, 3, 20, 1, 100);
        x.street(3, 1, 9, 5, 30);
        x.street(1, 0, 8, 4, 40);
        weights(x, 0, 2, 5, 3);
        weights(x, 2, 0, 7, 1);
        x.pull(0, 0, 0, 900);
        x.pull(1, 0, 0, 100);
        x.pull(1, 0, 1, 500);
        x.pull(2, 1, 2, 250);
        x.toll(0, 2);
        x.toll(2, 7);
        x.toll(4, 3);
        x.rounds(20, 3);
        x.assign(3);
        x.count(0, 120);
        x.count(4, 60);
        x.fit(2);
        // What comes behind the assignment: a closed street, a new zone, a new street, other sizes.
        x.open(1, false);
        x.zone(4, 50, 60);
        x.street(2, 4, 3, 0, 1);
        x.size(0, 0, 310);
        x.weight(1, 2, 9);
        return x;
    }

    /** All that a town can hold: 12 nodes, 6 zones, 40 streets, with trips on them. */
    static TripRounds full() {
        TripRounds x = nodes(12);
        for (int i = 0; i < 6; i++) {
            x.zone(11 - 2 * i, 1000 + 100 * i, 1500 - 100 * i);
        }
        for (int i = 0; i < 40; i++) {
            x.street(i % 12, (i % 12 + 1 + i / 12 * 2) % 12, 1 + i, i, 100);
        }
        for (int i = 0; i < 40; i += 3) {
            x.count(i, 70 * i + 9);
        }
        x.toll(0, 4);
        x.toll(39, 5);
        x.weight(0, 0, 3);
        x.pull(0, 0, 0, 800);
        x.pull(1, 5, 4, 300);
        x.rounds(50, 0);
        x.assign(8);
        return x;
    }
}
