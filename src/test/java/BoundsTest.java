import java.util.ArrayList;
import java.util.List;
import java.util.function.Supplier;

/**
 * "A number is out of its bounds, there is no such node, zone, street": each number of each call at its least and
 * greatest, which are taken, and at the first beyond each, which throws and changes nothing.
 */
public final class BoundsTest {
    private static final Check CHECK = new Check();

    private interface Call {
        void at(TripRounds x, int v);
    }

    private record Argument(String name, int least, int greatest, Call call) {
    }

    private record State(String name, Supplier<TripRounds> make, int nodes, int zones, int streets) {
    }

    public static void main(String[] args) {
        State middle = new State("in a town in use", Towns::middle, 5, 4, 7);
        taken(middle);
        refused(middle);
        refused(new State("in a full town", Towns::full, 12, 6, 40));
        refused(new State("in an empty town", TripRounds::new, 0, 0, 0));
        refused(new State("in a town of nodes alone", () -> Towns.nodes(2), 2, 0, 0));
        toldIsKept();
        CHECK.end();
    }

    private static List<Argument> arguments(State s) {
        List<Argument> all = new ArrayList<>();
        ofTown(all, s.nodes - 1, s.zones - 1, s.streets - 1);
        ofTrips(all, s.zones - 1);
        ofStreets(all, s.nodes - 1, s.zones - 1, s.streets - 1);
        return all;
    }

    private static void ofTown(List<Argument> all, int node, int zone, int street) {
        all.add(new Argument("3: zone's node", 0, node, (x, v) -> x.zone(v, 1, 1)));
        all.add(new Argument("3: zone's people", 0, 100000, (x, v) -> x.zone(0, v, 1)));
        all.add(new Argument("3: zone's jobs", 0, 100000, (x, v) -> x.zone(0, 1, v)));
        all.add(new Argument("4: street's from", 0, node, (x, v) -> x.street(v, v == 0 ? 1 : 0, 1, 0, 1)));
        all.add(new Argument("4: street's to", 0, node, (x, v) -> x.street(v == 0 ? 1 : 0, v, 1, 0, 1)));
        all.add(new Argument("4: street's free", 1, 1000, (x, v) -> x.street(0, 1, v, 0, 1)));
        all.add(new Argument("4: street's slope", 0, 1000, (x, v) -> x.street(0, 1, 1, v, 1)));
        all.add(new Argument("4: street's room", 1, 1000000, (x, v) -> x.street(0, 1, 1, 0, v)));
        all.add(new Argument("5: toll's street", 0, street, (x, v) -> x.toll(v, 9)));
        all.add(new Argument("5: toll", 0, 1000, (x, v) -> x.toll(0, v)));
        all.add(new Argument("6: street to open", 0, street, (x, v) -> x.open(v, true)));
        all.add(new Argument("6: street to close", 0, street, (x, v) -> x.open(v, false)));
        all.add(new Argument("7: weight's from", 0, zone, (x, v) -> x.weight(v, 0, 9)));
        all.add(new Argument("7: weight's to", 0, zone, (x, v) -> x.weight(0, v, 9)));
        all.add(new Argument("7: weight", 0, 1000, (x, v) -> x.weight(0, 0, v)));
        all.add(new Argument("8: size's zone", 0, zone, (x, v) -> x.size(v, 0, 9)));
        all.add(new Argument("8: size's what", 0, 1, (x, v) -> x.size(0, v, 9)));
        all.add(new Argument("8: people", 0, 100000, (x, v) -> x.size(0, 0, v)));
        all.add(new Argument("8: jobs", 0, 100000, (x, v) -> x.size(0, 1, v)));
    }

    private static void ofTrips(List<Argument> all, int zone) {
        all.add(new Argument("9: rounds' most", 1, 50, (x, v) -> x.rounds(v, 0)));
        all.add(new Argument("9: rounds' by", 0, 100000, (x, v) -> x.rounds(1, v)));
        all.add(new Argument("10: trips' from", 0, zone, (x, v) -> x.trips(v, 0)));
        all.add(new Argument("10: trips' to", 0, zone, (x, v) -> x.trips(0, v)));
        all.add(new Argument("11: sum's zone", 0, zone, (x, v) -> x.sum(v, 0)));
        all.add(new Argument("11: sum's side", 0, 1, (x, v) -> x.sum(0, v)));
        all.add(new Argument("12: factor's zone", 0, zone, (x, v) -> x.factor(v)));
        all.add(new Argument("13: pull's mode", 0, 2, (x, v) -> x.pull(v, 0, 0, 9)));
        all.add(new Argument("13: pull's from", 0, zone, (x, v) -> x.pull(0, v, 0, 9)));
        all.add(new Argument("13: pull's to", 0, zone, (x, v) -> x.pull(0, 0, v, 9)));
        all.add(new Argument("13: pull", 0, 1000, (x, v) -> x.pull(0, 0, 0, v)));
        all.add(new Argument("14: chosen's mode", 0, 2, (x, v) -> x.chosen(v, 0, 0)));
        all.add(new Argument("14: chosen's from", 0, zone, (x, v) -> x.chosen(0, v, 0)));
        all.add(new Argument("14: chosen's to", 0, zone, (x, v) -> x.chosen(0, 0, v)));
    }

    private static void ofStreets(List<Argument> all, int node, int zone, int street) {
        all.add(new Argument("15: parts", 1, 8, (x, v) -> x.assign(v)));
        all.add(new Argument("16: flow's street", 0, street, (x, v) -> x.flow(v, 0)));
        all.add(new Argument("16: flow's what", 0, 1, (x, v) -> x.flow(0, v)));
        all.add(new Argument("17: way's from", 0, node, (x, v) -> x.way(v, 0, 0)));
        all.add(new Argument("17: way's to", 0, node, (x, v) -> x.way(0, v, 0)));
        all.add(new Argument("17: way's k", 0, Integer.MAX_VALUE, (x, v) -> x.way(0, 0, v)));
        all.add(new Argument("18: least's from", 0, node, (x, v) -> x.least(v, 0)));
        all.add(new Argument("18: least's to", 0, node, (x, v) -> x.least(0, v)));
        all.add(new Argument("19: link's street", 0, street, (x, v) -> x.link(v, 0, 0)));
        all.add(new Argument("19: link's from", 0, zone, (x, v) -> x.link(0, v, 0)));
        all.add(new Argument("19: link's to", 0, zone, (x, v) -> x.link(0, 0, v)));
        all.add(new Argument("21: count's street", 0, street, (x, v) -> x.count(v, 9)));
        all.add(new Argument("21: count", TripRounds.NONE, 1000000, (x, v) -> x.count(0, v)));
        all.add(new Argument("22: times", 1, 20, (x, v) -> x.fit(v)));
    }

    private static void taken(State s) {
        for (Argument a : arguments(s)) {
            take(a, s, a.least);
            take(a, s, a.greatest);
        }
    }

    private static void take(Argument a, State s, int v) {
        String thrown = "nothing";
        try {
            a.call.at(s.make.get(), v);
        } catch (RuntimeException e) {
            thrown = e.toString();
        }
        CHECK.text(a.name + " " + v + " " + s.name + ": throws", "nothing", thrown);
    }

    private static void refused(State s) {
        List<Long> before = Picture.of(s.make);
        for (Argument a : arguments(s)) {
            refuse(a, s, a.least - 1, before);
            refuse(a, s, Integer.MIN_VALUE, before);
            if (a.greatest < Integer.MAX_VALUE) {
                refuse(a, s, a.greatest + 1, before);
                refuse(a, s, Integer.MAX_VALUE, before);
            }
        }
    }

    private static void refuse(Argument a, State s, int v, List<Long> before) {
        String what = a.name + " " + v + " " + s.name;
        CHECK.argument(what, () -> a.call.at(s.make.get(), v));
        CHECK.text(what + ": what it changes", before.toString(), Picture.of(() -> afterRefused(a, s, v)).toString());
    }

    private static TripRounds afterRefused(Argument a, State s, int v) {
        TripRounds x = s.make.get();
        try {
            a.call.at(x, v);
        } catch (IllegalArgumentException e) {
            return x;
        }
        return x;
    }

    /** The least and the greatest are kept as they are told, and the latest one counts. */
    private static void toldIsKept() {
        TripRounds x = Towns.middle();
        x.toll(0, 1000);
        CHECK.same("5: the greatest toll", 1000, x.toll(0, 0));
        CHECK.same("5: the least toll", 0, x.toll(0, 0));
        x.weight(0, 1, 1000);
        CHECK.same("7: the greatest weight", 1000, x.weight(0, 1, 0));
        CHECK.same("7: the least weight", 0, x.weight(0, 1, 0));
        x.size(0, 0, 100000);
        CHECK.same("8: the most people", 100000, x.size(0, 0, 0));
        CHECK.same("8: the fewest people", 0, x.size(0, 0, 0));
        x.size(0, 1, 100000);
        CHECK.same("8: the most jobs", 100000, x.size(0, 1, 0));
        CHECK.same("8: the fewest jobs", 0, x.size(0, 1, 0));
        x.pull(2, 0, 1, 1000);
        CHECK.same("13: the greatest pull", 1000, x.pull(2, 0, 1, 0));
        CHECK.same("13: the least pull", 0, x.pull(2, 0, 1, 0));
        x.count(0, 1000000);
        CHECK.same("21: the greatest count", 1000000, x.count(0, 0));
        CHECK.same("21: the least count", 0, x.count(0, TripRounds.NONE));
        CHECK.same("21: none", TripRounds.NONE, x.count(0, TripRounds.NONE));
    }
}
