import java.util.List;
import java.util.function.Consumer;
import java.util.function.Supplier;

/**
 * Illegal states, which of several exceptions is thrown, and that a call that throws changes nothing; besides, that
 * asking changes nothing, nor telling once more what is so.
 */
public final class RefusedTest {
    private static final Check CHECK = new Check();

    public static void main(String[] args) {
        fullStates();
        fitBeforeAssign();
        bothNodesAreOne();
        argumentGoesFirst();
        askingChangesNothing();
        tellingTheSameChangesNothing();
        tellingLeavesTheWork();
        CHECK.end();
    }

    private static void state(String what, Supplier<TripRounds> town, Consumer<TripRounds> call) {
        CHECK.state(what, () -> call.accept(town.get()));
        CHECK.text(what + ": what it changes", Picture.of(town).toString(), after(town, call).toString());
    }

    private static void argument(String what, Supplier<TripRounds> town, Consumer<TripRounds> call) {
        CHECK.argument(what, () -> call.accept(town.get()));
        CHECK.text(what + ": what it changes", Picture.of(town).toString(), after(town, call).toString());
    }

    private static void still(String what, Supplier<TripRounds> town, Consumer<TripRounds> call) {
        CHECK.text(what + ": what it changes", Picture.of(town).toString(), after(town, call).toString());
    }

    private static List<Long> after(Supplier<TripRounds> town, Consumer<TripRounds> call) {
        return Picture.of(() -> {
            TripRounds x = town.get();
            try {
                call.accept(x);
            } catch (IllegalArgumentException | IllegalStateException e) {
                return x;
            }
            return x;
        });
    }

    private static void fullStates() {
        state("2: a 13th node", Towns::full, x -> x.node());
        state("2: a 13th node without anything else", () -> Towns.nodes(12), x -> x.node());
        state("3: a 7th zone", Towns::full, x -> x.zone(0, 1, 1));
        state("3: a 7th zone, the least sizes", Towns::full, x -> x.zone(0, 0, 0));
        state("3: a 7th zone, the greatest sizes", Towns::full, x -> x.zone(11, 100000, 100000));
        state("3: a 7th zone at the one node", () -> Towns.atOneNode(1, 1, 2, 2, 3, 3, 4, 4, 5, 5, 6, 6),
                x -> x.zone(0, 1, 1));
        state("4: a 41st street", Towns::full, x -> x.street(0, 1, 1, 0, 1));
        state("4: a 41st street, the greatest numbers", Towns::full, x -> x.street(11, 0, 1000, 1000, 1000000));
    }

    private static TripRounds notAssigned() {
        TripRounds x = Towns.pair(2, 10);
        x.street(0, 1, 1, 0, 1);
        x.count(0, 5);
        return x;
    }

    private static void fitBeforeAssign() {
        state("22: fit in an empty town", TripRounds::new, x -> x.fit(1));
        state("22: fit before any assign", RefusedTest::notAssigned, x -> x.fit(1));
        state("22: fit so often before any assign", RefusedTest::notAssigned, x -> x.fit(20));
        TripRounds x = notAssigned();
        CHECK.argument("15: a refused assign", () -> x.assign(0));
        CHECK.argument("15: a refused assign", () -> x.assign(9));
        CHECK.state("22: is none", () -> x.fit(1));
        x.assign(1);
        CHECK.same("22: behind one that is not", 1, x.fit(1));
        TripRounds nothing = new TripRounds();
        nothing.assign(1);
        CHECK.same("22: an assign of nothing is one", 0, nothing.fit(1));
    }

    private static void bothNodesAreOne() {
        argument("4: from the first node to itself", Towns::middle, x -> x.street(0, 0, 1, 0, 1));
        argument("4: from the last node to itself", Towns::middle, x -> x.street(4, 4, 1, 0, 1));
        argument("4: from no node to itself", Towns::middle, x -> x.street(5, 5, 1, 0, 1));
        argument("4: from node -1 to itself", Towns::middle, x -> x.street(-1, -1, 1, 0, 1));
    }

    private static void argumentGoesFirst() {
        argument("3: a 7th zone at no node", Towns::full, x -> x.zone(12, 1, 1));
        argument("3: a 7th zone with too few people", Towns::full, x -> x.zone(0, -1, 1));
        argument("3: a 7th zone with too many jobs", Towns::full, x -> x.zone(0, 1, 100001));
        argument("4: a 41st street from no node", Towns::full, x -> x.street(12, 0, 1, 0, 1));
        argument("4: a 41st street to no node", Towns::full, x -> x.street(0, 12, 1, 0, 1));
        argument("4: a 41st street to where it begins", Towns::full, x -> x.street(3, 3, 1, 0, 1));
        argument("4: a 41st street that takes no time", Towns::full, x -> x.street(0, 1, 0, 0, 1));
        argument("4: a 41st street that is too steep", Towns::full, x -> x.street(0, 1, 1, 1001, 1));
        argument("4: a 41st street without room", Towns::full, x -> x.street(0, 1, 1, 0, 0));
        argument("22: fit 0 times before any assign", RefusedTest::notAssigned, x -> x.fit(0));
        argument("22: fit 21 times before any assign", RefusedTest::notAssigned, x -> x.fit(21));
        argument("22: fit 21 times in an empty town", TripRounds::new, x -> x.fit(21));
    }

    private static void askingChangesNothing() {
        still("10: trips", Towns::middle, x -> x.trips(0, 1));
        still("11: sum from", Towns::middle, x -> x.sum(0, 0));
        still("11: sum to", Towns::middle, x -> x.sum(0, 1));
        still("12: factor", Towns::middle, x -> x.factor(0));
        still("14: chosen", Towns::middle, x -> x.chosen(1, 0, 1));
        still("16: volume", Towns::middle, x -> x.flow(0, 0));
        still("16: time", Towns::middle, x -> x.flow(0, 1));
        still("17: way", Towns::middle, x -> x.way(0, 3, 0));
        still("18: least", Towns::middle, x -> x.least(0, 3));
        still("19: link", Towns::middle, x -> x.link(0, 0, 1));
        still("20: gap", Towns::middle, x -> x.gap());
    }

    private static void tellingTheSameChangesNothing() {
        still("5: toll", Towns::middle, x -> x.toll(2, 7));
        still("6: open", Towns::middle, x -> x.open(0, true));
        still("6: closed", Towns::middle, x -> x.open(1, false));
        still("7: weight", Towns::middle, x -> x.weight(0, 1, 5));
        still("8: people", Towns::middle, x -> x.size(0, 0, 310));
        still("8: jobs", Towns::middle, x -> x.size(1, 1, 250));
        still("13: pull", Towns::middle, x -> x.pull(1, 0, 1, 500));
        still("21: count", Towns::middle, x -> x.count(0, 120));
        still("21: no count", Towns::middle, x -> x.count(1, TripRounds.NONE));
        still("6: closed and open again", Towns::middle, x -> {
            x.open(0, false);
            x.open(0, true);
        });
    }

    /** A town whose latest calls are its rounds and its assignment. */
    private static TripRounds worked() {
        TripRounds x = Towns.atOneNode(40, 10, 20, 25, 30, 55);
        x.node();
        x.zone(1, 10, 10);
        x.street(0, 1, 5, 1, 1);
        x.street(1, 0, 6, 1, 1);
        x.count(0, 15);
        x.rounds(4, 0);
        x.assign(2);
        return x;
    }

    private static void leavesWork(String what, Consumer<TripRounds> call) {
        CHECK.text(what + ": what it does to the work", Picture.ofWork(RefusedTest::worked).toString(),
                Picture.ofWork(() -> {
                    TripRounds x = worked();
                    call.accept(x);
                    return x;
                }).toString());
    }

    /** What is told counts from the next rounds, assignment or fitting on. */
    private static void tellingLeavesTheWork() {
        leavesWork("2: node", x -> x.node());
        leavesWork("5: toll", x -> x.toll(0, 1000));
        leavesWork("6: closed", x -> x.open(0, false));
        leavesWork("7: weight", x -> x.weight(0, 1, 1000));
        leavesWork("8: people", x -> x.size(0, 0, 0));
        leavesWork("8: jobs", x -> x.size(3, 1, 100000));
        leavesWork("13: pull", x -> x.pull(0, 0, 3, 0));
        leavesWork("21: count", x -> x.count(0, 0));
    }
}
