/** New objects with one KIND, as tests begin with. */
final class Made {
    private Made() {
    }

    static BoughtAhead withKind(int hours, int rate) {
        BoughtAhead x = new BoughtAhead();
        x.hours(hours);
        x.kind(rate);
        return x;
    }

    /** With one OFFER, and a NEED for each HOUR: a call each where OWNER 0 alone can have it, none for 0. */
    static BoughtAhead withNeed(int rate, int term, int cost, int... need) {
        return withOffers(rate, need, new int[][] {{term, cost}});
    }

    /** An OFFER is its TERM and COST. What is NEEDED is parted among as many OWNERS as it takes, 0 first. */
    static BoughtAhead withOffers(int rate, int[] need, int[][] offers) {
        BoughtAhead x = withKind(need.length, rate);
        for (int[] offer : offers) {
            x.offer(0, offer[0], offer[1]);
        }
        for (int hour = 0; hour < need.length; hour++) {
            int left = need[hour];
            for (int owner = 0; left > 0; owner++) {
                x.need(owner, 0, hour, Math.min(9, left));
                left -= Math.min(9, left);
            }
        }
        return x;
    }
}
