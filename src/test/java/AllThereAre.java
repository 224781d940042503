/** Searches through all PLANS and all rows of PRICES of small cases. An OFFER is its TERM and COST. */
final class AllThereAre {
    private AllThereAre() {
    }

    /** No PLAN gains by buying more of an OFFER at an HOUR than the most that is NEEDED. */
    static long leastCost(int rate, int[] need, int[][] offers) {
        int most = 0;
        for (int n : need) {
            most = Math.max(most, n);
        }
        return leastFrom(0, rate, need.clone(), offers, most);
    }

    /** The place counts through each OFFER at each HOUR; left is what is NEEDED and not AHEAD yet. */
    private static long leastFrom(int place, int rate, int[] left, int[][] offers, int most) {
        if (place == left.length * offers.length) {
            long sum = 0;
            for (int n : left) {
                sum += (long) rate * Math.max(0, n);
            }
            return sum;
        }
        int hour = place / offers.length;
        int[] offer = offers[place % offers.length];
        int[] then = left.clone();
        long least = Long.MAX_VALUE;
        for (int bought = 0; bought <= most; bought++) {
            least = Math.min(least, (long) bought * offer[1] + leastFrom(place + 1, rate, then, offers, most));
            for (int h = hour; h < Math.min(left.length, hour + offer[0]); h++) {
                then[h]--;
            }
        }
        return least;
    }

    /** The row that has the greatest sum from every HOUR on, or null if no row has them all. */
    static int[] greatestProof(int rate, int[] need, int[][] offers, long best) {
        int[] greatest = new int[need.length];
        int[] row = new int[need.length];
        java.util.Arrays.fill(greatest, -1);
        do {
            if (isProof(row, need, offers, best)) {
                for (int hour = 0; hour < need.length; hour++) {
                    greatest[hour] = Math.max(greatest[hour], sumFrom(row, hour));
                }
            }
        } while (next(row, rate));
        for (int hour = 0; hour < need.length; hour++) {
            row[hour] = greatest[hour] - (hour + 1 < need.length ? greatest[hour + 1] : 0);
        }
        return inRange(row, rate) && isProof(row, need, offers, best) ? row : null;
    }

    private static boolean inRange(int[] row, int rate) {
        for (int price : row) {
            if (price < 0 || price > rate) {
                return false;
            }
        }
        return true;
    }

    private static boolean next(int[] row, int rate) {
        for (int i = 0; i < row.length; i++) {
            if (row[i] < rate) {
                row[i]++;
                return true;
            }
            row[i] = 0;
        }
        return false;
    }

    private static int sumFrom(int[] row, int from) {
        int sum = 0;
        for (int hour = from; hour < row.length; hour++) {
            sum += row[hour];
        }
        return sum;
    }

    static boolean isProof(int[] row, int[] need, int[][] offers, long best) {
        long sum = 0;
        for (int hour = 0; hour < row.length; hour++) {
            sum += (long) need[hour] * row[hour];
        }
        for (int[] offer : offers) {
            for (int hour = 0; hour < row.length; hour++) {
                int end = Math.min(row.length, hour + offer[0]);
                if (sumFrom(row, hour) - sumFrom(row, end) > offer[1]) {
                    return false;
                }
            }
        }
        return sum == best;
    }
}
