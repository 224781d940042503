/** Promise 15: what the rule buys that sees no HOUR ahead, each case worked out by hand. */
public final class BlindTest {
    private static final Due DUE = new Due("BlindTest");

    public static void main(String[] args) {
        none();
        oneMachine();
        severalLayers();
        nextHoursCount();
        oneHourTerm();
        neverWorthIt();
        freeBuysNothing();
        replacesThePlan();
        laterHours();
        DUE.end();
    }

    private static BoughtAhead made(int rate, int term, int cost, int... need) {
        BoughtAhead x = new BoughtAhead();
        x.hours(need.length);
        x.kind(rate);
        x.offer(0, term, cost);
        for (int hour = 0; hour < need.length; hour++) {
            x.need(0, 0, hour, need[hour] / 2);
            x.need(3, 0, hour, need[hour] - need[hour] / 2);
        }
        return x;
    }

    private static void buys(String name, BoughtAhead x, int offer, int... row) {
        for (int hour = 0; hour < row.length; hour++) {
            DUE.is(name + ": bought at " + hour, x.tell(0, hour, 20 + offer), row[hour]);
        }
    }

    private static void none() {
        BoughtAhead x = made(10, 3, 20, 1, 1, 1);
        x.buy(0, 0, 5);
        for (int offer : new int[] {-1, 1, 6, Integer.MIN_VALUE, Integer.MAX_VALUE}) {
            DUE.is("blind(" + offer + ")", x.blind(offer), -1);
        }
        buys("refused", x, 0, 5, 0, 0);
    }

    /** At 1 two HOURS are SPENT; 0 to 3 are COUNTED then, so that 4 and 5 are SPENT at 5. */
    private static void oneMachine() {
        BoughtAhead x = made(10, 3, 20, 1, 1, 1, 1, 1, 1);
        DUE.is("one machine", x.blind(0), 2 * 20 + 2 * 10);
        buys("one machine", x, 0, 0, 1, 0, 0, 0, 1);
        DUE.is("it is the PLAN", x.cost(0), 60);
        DUE.is("asked again", x.blind(0), 60);
        x.reprice(0, 21);
        DUE.is("one dearer: three HOURS are to be SPENT", x.blind(0), 21 + 5 * 10 - 3 * 10 + 10);
        buys("one dearer", x, 0, 0, 0, 1, 0, 0, 0);
    }

    /** At 1 the HOURS 0 and 1 are SPENT twice over; the third machine of HOUR 1 alone is not enough. */
    private static void severalLayers() {
        BoughtAhead x = made(10, 3, 20, 2, 3, 1);
        DUE.is("layers", x.blind(0), 2 * 20 + 2 * 10 + 10);
        buys("layers", x, 0, 0, 2, 0);
    }

    /** Bought at 0 it is COUNTED for 0 and 1, and at 2 for 1, 2 and 3. */
    private static void nextHoursCount() {
        BoughtAhead x = made(10, 2, 10, 1, 1, 1, 1, 2);
        DUE.is("next HOURS", x.blind(0), 4 * 10);
        buys("next HOURS", x, 0, 1, 0, 1, 0, 2);
    }

    private static void oneHourTerm() {
        BoughtAhead x = made(10, 1, 10, 3, 0, 1);
        DUE.is("TERM 1, as dear as the RATE", x.blind(0), 40);
        buys("TERM 1", x, 0, 3, 0, 1);
        BoughtAhead full = new BoughtAhead();
        full.hours(40);
        full.kind(1000);
        full.offer(0, 1, 1);
        for (int owner = 0; owner < 4; owner++) {
            full.need(owner, 0, 39, 9);
        }
        DUE.is("36 in an HOUR", full.blind(0), 36);
        DUE.is("all in the last one", full.tell(0, 39, 20), 36);
    }

    private static void neverWorthIt() {
        BoughtAhead x = made(10, 3, 31, 2, 2, 2, 2);
        DUE.is("too dear", x.blind(0), 80);
        buys("too dear", x, 0, 0, 0, 0, 0);
        BoughtAhead idle = made(10, 3, 1, 0, 0, 0);
        DUE.is("nothing NEEDED", idle.blind(0), 0);
        buys("nothing NEEDED", idle, 0, 0, 0, 0);
    }

    private static void freeBuysNothing() {
        BoughtAhead x = made(10, 3, 0, 2, 2);
        x.buy(0, 0, 9);
        DUE.is("COST 0", x.blind(0), 40);
        buys("COST 0", x, 0, 0, 0);
    }

    private static void replacesThePlan() {
        BoughtAhead x = made(10, 3, 20, 1, 1, 1);
        x.offer(0, 2, 15);
        x.kind(7);
        x.offer(1, 2, 5);
        x.buy(0, 0, 4);
        x.buy(1, 1, 5);
        x.buy(2, 2, 6);
        DUE.is("of OFFER 0", x.blind(0), 20 + 10);
        buys("OFFER 0", x, 0, 0, 1, 0);
        buys("OFFER 1 of the KIND", x, 1, 0, 0, 0);
        DUE.is("the other KIND stays", x.tell(1, 2, 22), 6);
        DUE.is("of OFFER 1", x.blind(1), 15 + 10);
        buys("OFFER 0", x, 0, 0, 0, 0);
        buys("OFFER 1", x, 1, 0, 1, 0);
        DUE.is("of the other KIND", x.blind(2), 0);
        buys("OFFER 1 stays", x, 1, 0, 1, 0);
    }

    /** The PLAN that it made is a PLAN like any other: HOURS, NEED and COST may change under it. */
    private static void laterHours() {
        BoughtAhead x = made(10, 3, 20, 1, 1, 1, 1, 1, 1);
        x.blind(0);
        x.hours(5);
        DUE.is("cut", x.cost(0), 20 + 2 * 10);
        x.buy(0, 1, 0);
        DUE.is("by the hour", x.cost(0), 50);
    }
}
