import java.util.ArrayList;
import java.util.Arrays;
import java.util.List;

/**
 * BEST and PRICES of cases of any size, by another way than the class goes: all is NEEDED by the hour
 * at first, and what it costs is lowered round by round, as long as a round trip lowers it.
 */
final class PlainBest {
    /** A machine that is there from one border of HOURS to another, or (from > to) one that is idle. */
    private static final class Arc {
        final int from;
        final int to;
        final int fee;
        int units;

        Arc(int from, int to, int fee) {
            this.from = from;
            this.to = to;
            this.fee = fee;
        }
    }

    private final int hours;
    private final List<Arc> arcs = new ArrayList<>();

    /** An OFFER is its TERM and COST. */
    PlainBest(int rate, int[] need, int[][] offers) {
        hours = need.length;
        for (int hour = 0; hour < hours; hour++) {
            Arc byTheHour = new Arc(hour, hour + 1, rate);
            byTheHour.units = need[hour];
            arcs.add(byTheHour);
            arcs.add(new Arc(hour + 1, hour, 0));
            for (int[] offer : offers) {
                arcs.add(new Arc(hour, Math.min(hours, hour + offer[0]), offer[1]));
            }
        }
        while (lowered()) {
            continue;
        }
    }

    long cost() {
        long sum = 0;
        for (Arc arc : arcs) {
            sum += (long) arc.fee * arc.units;
        }
        return sum;
    }

    /** The greatest sums from each border on are the least fees to the last one. */
    int[] prices() {
        long[] sums = new long[hours + 1];
        Arrays.fill(sums, Integer.MAX_VALUE);
        sums[hours] = 0;
        for (int round = 0; round <= hours; round++) {
            for (Arc arc : arcs) {
                sums[arc.from] = Math.min(sums[arc.from], sums[arc.to] + arc.fee);
                if (arc.units > 0) {
                    sums[arc.to] = Math.min(sums[arc.to], sums[arc.from] - arc.fee);
                }
            }
        }
        int[] row = new int[hours];
        for (int hour = 0; hour < hours; hour++) {
            row[hour] = (int) (sums[hour] - sums[hour + 1]);
        }
        return row;
    }

    private boolean lowered() {
        long[] far = new long[hours + 1];
        Arc[] by = new Arc[hours + 1];
        int changed = -1;
        for (int round = 0; round <= hours; round++) {
            changed = -1;
            for (Arc arc : arcs) {
                if (far[arc.from] + arc.fee < far[arc.to]) {
                    far[arc.to] = far[arc.from] + arc.fee;
                    by[arc.to] = arc;
                    changed = arc.to;
                }
                if (arc.units > 0 && far[arc.to] - arc.fee < far[arc.from]) {
                    far[arc.from] = far[arc.to] - arc.fee;
                    by[arc.from] = arc;
                    changed = arc.from;
                }
            }
        }
        if (changed < 0) {
            return false;
        }
        goRound(by, changed);
        return true;
    }

    private void goRound(Arc[] by, int changed) {
        int start = changed;
        for (int i = 0; i <= hours; i++) {
            start = before(by, start);
        }
        int most = Integer.MAX_VALUE;
        int point = start;
        do {
            if (by[point].to != point) {
                most = Math.min(most, by[point].units);
            }
            point = before(by, point);
        } while (point != start);
        do {
            by[point].units += by[point].to == point ? most : -most;
            point = before(by, point);
        } while (point != start);
    }

    private static int before(Arc[] by, int point) {
        return by[point].to == point ? by[point].from : by[point].to;
    }
}
