/** Promise 16: what OWNERS pay, each case worked out by hand. */
public final class SharesTest {
    private static final Due DUE = new Due("SharesTest");

    public static void main(String[] args) {
        none();
        byTheHour();
        byTurns();
        leftOver();
        leftOverOfSeveral();
        nobodyHadAny();
        moreThanNeeded();
        allHoursTogether();
        ofOneKindAlone();
        DUE.end();
    }

    private static BoughtAhead made(int hours, int rate, int term, int cost) {
        BoughtAhead x = new BoughtAhead();
        x.hours(hours);
        x.kind(rate);
        x.offer(0, term, cost);
        return x;
    }

    private static void need(BoughtAhead x, int hour, int... owners) {
        for (int owner = 0; owner < 4; owner++) {
            x.need(owner, 0, hour, owners[owner]);
        }
    }

    private static void pay(String name, BoughtAhead x, long... owners) {
        long sum = 0;
        for (int owner = 0; owner < 4; owner++) {
            DUE.is(name + ": OWNER " + owner, x.pays(owner, 0), owners[owner]);
            sum += owners[owner];
        }
        DUE.is(name + ": together they pay the COST", sum, x.cost(0));
    }

    private static void none() {
        BoughtAhead x = made(2, 10, 1, 7);
        for (int owner : new int[] {-1, 4, Integer.MIN_VALUE, Integer.MAX_VALUE}) {
            DUE.is("pays(" + owner + ", 0)", x.pays(owner, 0), -1);
        }
        for (int kind : new int[] {-1, 1, 3, Integer.MIN_VALUE, Integer.MAX_VALUE}) {
            DUE.is("pays(0, " + kind + ")", x.pays(0, kind), -1);
        }
        pay("nothing", x, 0, 0, 0, 0);
    }

    private static void byTheHour() {
        BoughtAhead x = made(2, 10, 1, 7);
        need(x, 0, 1, 2, 0, 9);
        need(x, 1, 3, 0, 0, 9);
        pay("by the hour", x, 40, 20, 0, 180);
    }

    /** Of 3, 3, 0, 1 four go to 0, 1, 0, 1; one each of 0, 1 and 3 is left. */
    private static void byTurns() {
        BoughtAhead x = made(2, 10, 1, 7);
        need(x, 0, 3, 3, 0, 1);
        x.buy(0, 0, 4);
        pay("by turns", x, 14 + 10, 14 + 10, 0, 10);
        x.buy(0, 0, 5);
        pay("the fifth goes to the least", x, 21, 14 + 10, 0, 10);
        x.buy(0, 0, 6);
        pay("the sixth to the next", x, 21, 21, 0, 10);
        x.buy(0, 0, 1);
        need(x, 0, 1, 2, 3, 3);
        pay("the first to who NEEDS most", x, 10, 20, 7 + 20, 30);
    }

    /** 35 parted by 1 and 2 is 11 and 23; the one left over is paid by who had two. */
    private static void leftOver() {
        BoughtAhead x = made(2, 10, 1, 35);
        need(x, 0, 0, 1, 2, 0);
        x.reprice(0, 7);
        x.buy(0, 0, 3);
        x.buy(0, 1, 2);
        pay("left over", x, 0, 11, 24, 0);
    }

    private static void leftOverOfSeveral() {
        BoughtAhead x = made(1, 10, 1, 20);
        need(x, 0, 0, 1, 1, 1);
        x.buy(0, 0, 4);
        pay("80 in three", x, 0, 28, 26, 26);
    }

    private static void nobodyHadAny() {
        BoughtAhead x = made(3, 10, 2, 7);
        x.buy(0, 0, 3);
        need(x, 2, 0, 0, 4, 0);
        pay("none had any", x, 21, 0, 40, 0);
    }

    /** What is AHEAD and not NEEDED is nobody's, and parts nothing. */
    private static void moreThanNeeded() {
        BoughtAhead x = made(2, 10, 2, 10);
        need(x, 0, 0, 0, 1, 0);
        need(x, 1, 0, 1, 0, 1);
        x.buy(0, 0, 60);
        pay("more than NEEDED", x, 0, 200, 200, 200);
    }

    /** Had: 2 and 1 in HOUR 0, none and 3 in HOUR 1; two HOURS of one machine have one COST. */
    private static void allHoursTogether() {
        BoughtAhead x = made(3, 10, 2, 100);
        x.offer(0, 1, 5);
        need(x, 0, 3, 2, 0, 0);
        need(x, 1, 0, 5, 0, 0);
        need(x, 2, 0, 0, 0, 2);
        x.buy(0, 0, 3);
        x.buy(1, 2, 1);
        // 305 parted by 2, 4, 0, 1: 87, 174, 0, 43, and 1 is left over
        pay("all HOURS", x, 87 + 10, 175 + 10 + 20, 0, 43 + 10);
    }

    private static void ofOneKindAlone() {
        BoughtAhead x = made(2, 10, 1, 7);
        x.kind(3);
        x.offer(1, 1, 2);
        need(x, 0, 1, 1, 0, 0);
        x.need(2, 1, 0, 4);
        x.buy(0, 0, 1);
        x.buy(1, 0, 3);
        pay("KIND 0", x, 7, 10, 0, 0);
        DUE.is("KIND 1", x.pays(2, 1), 3 * 2 + 3);
        DUE.is("KIND 1", x.pays(0, 1), 0);
    }
}
