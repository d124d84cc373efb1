import java.util.ArrayList;
import java.util.List;

/**
 * The document once more, in its most literal form and without regard to speed: every way is walked, nothing is
 * kept that can be worked out again. Only right arguments may be given.
 */
final class NaiveTown {
    static final class Street {
        int from;
        int to;
        long free;
        long slope;
        long room;
        long toll;
        boolean open = true;
        long count = -1;
        long volume;

        long time() {
            return Math.min(1000000, free + slope * volume / room + toll);
        }
    }

    final List<Street> streets = new ArrayList<>();
    final List<Integer> zones = new ArrayList<>();
    final long[][] sizes = new long[2][6];
    final long[][] weights = new long[6][6];
    final long[][] trips = new long[6][6];
    final long[] factors = new long[6];
    final long[][][] pulls = new long[6][6][3];
    final long[][][] used = new long[40][6][6];
    final long[][] went = new long[6][6];
    int nodes;
    int parts;

    private List<Integer> best;
    private long bestTime;

    NaiveTown() {
        for (int i = 0; i < 6; i++) {
            factors[i] = -1;
            for (int j = 0; j < 6; j++) {
                weights[i][j] = 1;
                pulls[i][j][0] = 1000;
            }
        }
    }

    static long[] share(long n, long[] numbers) {
        long all = 0;
        for (long x : numbers) {
            all += x;
        }
        long[] got = new long[numbers.length];
        if (all == 0) {
            return got;
        }
        List<Integer> order = new ArrayList<>();
        long left = n;
        for (int i = 0; i < numbers.length; i++) {
            got[i] = n * numbers[i] / all;
            left -= got[i];
            order.add(i);
        }
        long sum = all;
        // The sort is stable, so that equal rests stay by place.
        order.sort((a, b) -> Long.compare(n * numbers[b] % sum, n * numbers[a] % sum));
        for (int k = 0; k < left; k++) {
            got[order.get(k)]++;
        }
        return got;
    }

    long rounds(int most, int by) {
        int m = zones.size();
        long[] next = new long[m];
        java.util.Arrays.fill(next, 1000);
        for (int round = 1; ; round++) {
            System.arraycopy(next, 0, factors, 0, m);
            for (int i = 0; i < m; i++) {
                long[] numbers = new long[m];
                for (int j = 0; j < m; j++) {
                    numbers[j] = weights[i][j] * next[j];
                }
                System.arraycopy(share(sizes[0][i], numbers), 0, trips[i], 0, m);
            }
            boolean met = true;
            for (int j = 0; j < m; j++) {
                long to = sum(j, 1);
                met &= Math.abs(to - sizes[1][j]) <= by;
                if (to != 0) {
                    next[j] = Math.max(1, Math.min(1000000, next[j] * sizes[1][j] / to));
                }
            }
            if (met || round == most) {
                return met ? round : -round;
            }
        }
    }

    long sum(int zone, int side) {
        long all = 0;
        for (int i = 0; i < 6; i++) {
            all += side == 0 ? trips[zone][i] : trips[i][zone];
        }
        return all;
    }

    long chosen(int mode, int from, int to) {
        return share(trips[from][to], pulls[from][to])[mode];
    }

    /** The least way as a row of streets, null for none; found by walking all that visit no node twice. */
    List<Integer> leastWay(int from, int to, long[] times) {
        best = null;
        bestTime = Long.MAX_VALUE;
        walk(from, to, times, new ArrayList<>(), 0, 1 << from);
        return best;
    }

    private void walk(int at, int to, long[] times, List<Integer> row, long time, int seen) {
        if (time > bestTime) {
            return;
        }
        if (at == to) {
            if (time < bestTime || row.size() < best.size() || row.size() == best.size() && isLesser(row, best)) {
                best = new ArrayList<>(row);
                bestTime = time;
            }
            return;
        }
        for (int s = 0; s < streets.size(); s++) {
            Street street = streets.get(s);
            if (street.open && street.from == at && (seen >> street.to & 1) == 0) {
                row.add(s);
                walk(street.to, to, times, row, time + times[s], seen | 1 << street.to);
                row.remove(row.size() - 1);
            }
        }
    }

    private static boolean isLesser(List<Integer> a, List<Integer> b) {
        for (int i = 0; i < a.size(); i++) {
            if (!a.get(i).equals(b.get(i))) {
                return a.get(i) < b.get(i);
            }
        }
        return false;
    }

    long[] timesNow() {
        long[] times = new long[streets.size()];
        for (int s = 0; s < times.length; s++) {
            times[s] = streets.get(s).time();
        }
        return times;
    }

    long least(int from, int to) {
        return leastWay(from, to, timesNow()) == null ? -1 : bestTime;
    }

    long way(int from, int to, int k) {
        List<Integer> row = leastWay(from, to, timesNow());
        return row == null || k >= row.size() ? -1 : row.get(k);
    }

    long assign(int n) {
        parts = n;
        long lost = 0;
        for (Street s : streets) {
            s.volume = 0;
        }
        for (int i = 0; i < 6; i++) {
            for (int j = 0; j < 6; j++) {
                went[i][j] = 0;
                for (long[][] street : used) {
                    street[i][j] = 0;
                }
            }
        }
        for (int k = 0; k < n; k++) {
            long[] times = timesNow();
            for (int i = 0; i < zones.size(); i++) {
                for (int j = 0; j < zones.size(); j++) {
                    long t = chosen(0, i, j);
                    lost += i == j ? 0 : send(i, j, t * (k + 1) / n - t * k / n, times);
                }
            }
        }
        return lost;
    }

    private long send(int i, int j, long some, long[] times) {
        List<Integer> row = leastWay(zones.get(i), zones.get(j), times);
        if (row == null) {
            return some;
        }
        went[i][j] += some;
        for (int s : row) {
            streets.get(s).volume += some;
            used[s][i][j] += some;
        }
        return 0;
    }

    long gap() {
        long all = 0;
        for (Street s : streets) {
            all += s.volume * s.time();
        }
        for (int i = 0; i < zones.size(); i++) {
            for (int j = 0; j < zones.size(); j++) {
                long time = least(zones.get(i), zones.get(j));
                all -= time < 0 ? 0 : went[i][j] * time;
            }
        }
        return all;
    }

    long fit(int n) {
        for (int done = 0; done < n; done++) {
            int at = -1;
            for (int s = 0; s < streets.size(); s++) {
                if (streets.get(s).count >= 0 && off(s) > 0 && (at < 0 || off(s) > off(at))) {
                    at = s;
                }
            }
            if (at < 0 || streets.get(at).volume == 0) {
                return done;
            }
            for (int i = 0; i < 6; i++) {
                for (int j = 0; j < 6; j++) {
                    if (used[at][i][j] > 0) {
                        trips[i][j] = Math.min(1000000, trips[i][j] * streets.get(at).count / streets.get(at).volume);
                    }
                }
            }
            assign(parts);
        }
        return n;
    }

    private long off(int s) {
        return Math.abs(streets.get(s).count - streets.get(s).volume);
    }
}
