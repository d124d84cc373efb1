import java.util.ArrayList;
import java.util.List;
import java.util.function.Supplier;

/**
 * All that can be asked of a town, and what it would do next. Each page is asked of a town that is made anew: asking
 * by telling (toll, size ..) spoils no other page, and no town comes near its 512th call.
 */
final class Picture {
    private static final long ARGUMENT = -1001;
    private static final long STATE = -1002;

    private interface Page {
        void ask(Picture p, TripRounds x);
    }

    private interface Call {
        long get();
    }

    private static final List<Page> PAGES = List.of(Picture::table, Picture::told, Picture::streets, Picture::leasts,
            Picture::ways, Picture::more, Picture::nextFit, Picture::nextAssign, Picture::nextRounds);

    private final List<Long> answers = new ArrayList<>();

    private Picture() {
    }

    static List<Long> of(Supplier<TripRounds> town) {
        Picture p = new Picture();
        for (Page page : PAGES) {
            page.ask(p, town.get());
        }
        for (int from = 0; from < 6; from++) {
            p.links(town.get(), from);
        }
        return p.answers;
    }

    /** What the latest rounds and the latest assignment left: the table, the factors, the volumes and who went. */
    static List<Long> ofWork(Supplier<TripRounds> town) {
        Picture p = new Picture();
        p.work(town.get());
        for (int from = 0; from < 6; from++) {
            p.links(town.get(), from);
        }
        return p.answers;
    }

    private long add(Call call) {
        long answer;
        try {
            answer = call.get();
        } catch (IllegalArgumentException e) {
            answer = ARGUMENT;
        } catch (IllegalStateException e) {
            answer = STATE;
        }
        answers.add(answer);
        return answer;
    }

    private void table(TripRounds x) {
        for (int i = 0; i < 6; i++) {
            int from = i;
            add(() -> x.factor(from));
            add(() -> x.sum(from, 0));
            add(() -> x.sum(from, 1));
            for (int j = 0; j < 6; j++) {
                int to = j;
                add(() -> x.trips(from, to));
                add(() -> x.chosen(0, from, to));
                add(() -> x.chosen(1, from, to));
                add(() -> x.chosen(2, from, to));
            }
        }
        add(x::gap);
    }

    private void told(TripRounds x) {
        for (int i = 0; i < 6; i++) {
            int from = i;
            add(() -> x.size(from, 0, 0));
            add(() -> x.size(from, 1, 0));
            for (int j = 0; j < 6; j++) {
                int to = j;
                add(() -> x.weight(from, to, 0));
                add(() -> x.pull(0, from, to, 0));
                add(() -> x.pull(1, from, to, 0));
                add(() -> x.pull(2, from, to, 0));
            }
        }
    }

    private void streets(TripRounds x) {
        for (int s = 0; s < 40; s++) {
            int street = s;
            add(() -> x.flow(street, 0));
            add(() -> x.flow(street, 1));
            add(() -> x.toll(street, 0));
            add(() -> x.open(street, true) ? 1 : 0);
            add(() -> x.count(street, 0));
        }
    }

    private void leasts(TripRounds x) {
        for (int i = 0; i < 144; i++) {
            int pair = i;
            add(() -> x.least(pair / 12, pair % 12));
        }
    }

    private void ways(TripRounds x) {
        for (int i = 0; i < 144; i++) {
            int pair = i;
            add(() -> x.way(pair / 12, pair % 12, 0));
            add(() -> x.way(pair / 12, pair % 12, 1));
        }
    }

    private void links(TripRounds x, int from) {
        for (int i = 0; i < 240; i++) {
            int place = i;
            add(() -> x.link(place / 6, from, place % 6));
        }
    }

    /** The numbers of what could still come. */
    private void more(TripRounds x) {
        for (int i = 0; i < 13 && add(x::node) >= 0; i++) {
        }
        for (int i = 0; i < 7 && add(() -> x.zone(0, 1, 1)) >= 0; i++) {
        }
        for (int i = 0; i < 41 && add(() -> x.street(0, 1, 1, 0, 1)) >= 0; i++) {
        }
    }

    private void nextFit(TripRounds x) {
        add(() -> x.fit(3));
        work(x);
        add(x::gap);
    }

    private void nextAssign(TripRounds x) {
        add(() -> x.assign(4));
        work(x);
        add(x::gap);
    }

    private void nextRounds(TripRounds x) {
        add(() -> x.rounds(3, 0));
        work(x);
        add(x::gap);
    }

    private void work(TripRounds x) {
        for (int s = 0; s < 40; s++) {
            int street = s;
            add(() -> x.flow(street, 0));
        }
        for (int i = 0; i < 36; i++) {
            int pair = i;
            add(() -> x.trips(pair / 6, pair % 6));
        }
        for (int i = 0; i < 6; i++) {
            int zone = i;
            add(() -> x.factor(zone));
        }
    }
}
