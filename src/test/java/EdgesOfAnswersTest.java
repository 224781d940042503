/** The sentences of 'Terms' 2 to 4 (BEST, PRICES, BLIND, SHARES) that name an edge, worked out by hand. */
public final class EdgesOfAnswersTest {
    private static final Due DUE = new Due("EdgesOfAnswersTest");

    public static void main(String[] args) {
        best();
        prices();
        whichPrices();
        spent();
        asLongAs();
        counted();
        turns();
        parted();
        DUE.end();
    }

    private static void best() {
        DUE.says("BEST of a KIND: the least COST of all PLANS for it");
        DUE.is("nothing NEEDED", Made.withNeed(10, 3, 1, 0, 0, 0).best(0), 0);
        DUE.is("nothing NEEDED, all free", Made.withNeed(10, 3, 0, 0, 0, 0).best(0), 0);
        DUE.is("one HOUR", Made.withNeed(10, 40, 9, 1).best(0), 9);
        DUE.is("one dearer than by the hour", Made.withNeed(10, 3, 31, 1, 1, 1).best(0), 30);
        DUE.is("as dear as by the hour", Made.withNeed(10, 3, 30, 1, 1, 1).best(0), 30);
        DUE.is("one less", Made.withNeed(10, 3, 29, 1, 1, 1).best(0), 29);
        DUE.is("an HOUR beside", Made.withNeed(10, 2, 19, 1, 1, 1).best(0), 29);
        DUE.is("idle in between", Made.withNeed(10, 3, 19, 1, 0, 1).best(0), 19);
        BoughtAhead x = Made.withNeed(10, 3, 29, 1, 1, 1);
        x.buy(0, 0, 60);
        DUE.is("whatever is bought", x.best(0), 29);
        x.kind(10);
        x.offer(1, 3, 1);
        DUE.is("OFFERS of another KIND are none for it", x.best(0), 29);
        DUE.is("a KIND that nobody NEEDS", x.best(1), 0);

        // runs of 1 to 6 HOURS, two idle HOURS between them: no OFFER is worth while across these
        BoughtAhead six = Made.withNeed(10, 1, 9, 0, 1, 0, 0, 1, 1, 0, 0, 1, 1, 1, 0, 0, 1, 1, 1, 1, 0, 0, 1, 1, 1, 1, 1,
                0, 0, 1, 1, 1, 1, 1, 1);
        int[] costs = {9, 17, 24, 30, 35, 39};
        long sum = 9;
        for (int term = 2; term <= 6; term++) {
            six.offer(0, term, costs[term - 1]);
            sum += costs[term - 1];
        }
        DUE.is("six OFFERS, each the best for as many HOURS", six.best(0), sum);
        DUE.is("the longest run is one shorter", six.more(0, 26, -1), costs[4] - costs[5]);

        DUE.says("(as many of each OFFER as one likes)");
        BoughtAhead many = Made.withNeed(1000, 1, 1, 0, 36, 0);
        DUE.is("36 at an HOUR", many.best(0), 36);
        DUE.is("60 at an HOUR", many.more(0, 1, 24), 24);
        DUE.is("61 at an HOUR", many.more(0, 1, 25), 25);
        DUE.is("96 at an HOUR", many.more(0, 1, 60), 60);

        DUE.says("its NEED of all as it is");
        BoughtAhead all = new BoughtAhead();
        all.hours(1);
        all.kind(7);
        for (int owner = 0; owner < 4; owner++) {
            all.need(owner, 0, 0, 9);
            DUE.is("BEST", all.best(0), 63 * (owner + 1));
        }
        all.need(2, 0, 0, 0);
        DUE.is("BEST without one OWNER", all.best(0), 63 * 3);
    }

    private static void row(String name, BoughtAhead x, int... row) {
        long sum = 0;
        for (int hour = 0; hour < row.length; hour++) {
            DUE.is(name + ": price of " + hour, x.price(0, hour), row[hour]);
            sum += (long) x.tell(0, hour, 0) * row[hour];
        }
        DUE.is(name + ": NEED times PRICE", sum, x.best(0));
    }

    private static void prices() {
        DUE.says("PRICES of HOURS, whole numbers, 0 .. RATE each");
        row("one for two", Made.withNeed(1, 2, 1, 1, 1), 0, 1);
        row("the greatest RATE", Made.withNeed(1000, 1, 100000, 1, 0), 1000, 1000);
        row("the least RATE", Made.withNeed(1, 1, 100000, 1, 0), 1, 1);
        row("as dear as the RATE", Made.withNeed(10, 1, 10, 1, 0), 10, 10);
        row("one less", Made.withNeed(10, 1, 9, 1, 0), 9, 9);
        row("free", Made.withNeed(1000, 1, 0, 36, 36), 0, 0);

        DUE.says("each HOUR at which it may be bought the PRICES of the HOURS for which it is there are its COST at most together");
        row("at the last HOUR, cut short", Made.withNeed(10, 40, 9, 0, 0, 2), 0, 0, 9);
        row("at the first HOUR", Made.withNeed(10, 40, 9, 2, 0, 0), 9, 0, 0);
        row("two of three", Made.withNeed(10, 2, 12, 1, 1, 1), 10, 2, 10);
        row("one HOUR alone", Made.withNeed(10, 40, 9, 3), 9);
        row("a COST that binds nothing", Made.withNeed(10, 2, 20, 1, 1, 1), 10, 10, 10);
    }

    private static void whichPrices() {
        DUE.says("one has, for each HOUR, the greatest sum from that HOUR on to the last one");
        row("both NEEDED alike", Made.withNeed(10, 2, 15, 1, 1), 5, 10);
        row("the first NEEDED alone", Made.withNeed(10, 2, 15, 1, 0), 10, 5);
        row("the last NEEDED alone", Made.withNeed(10, 2, 15, 0, 1), 5, 10);
        row("none NEEDED", Made.withNeed(10, 2, 15, 0, 0), 5, 10);
        row("the first NEEDED more", Made.withNeed(10, 2, 15, 2, 1), 10, 5);
        row("none NEEDED, three HOURS", Made.withNeed(10, 2, 15, 0, 0, 0), 10, 5, 10);
    }

    private static void blind(String name, BoughtAhead x, long cost, int... row) {
        DUE.is(name, x.blind(0), cost);
        for (int hour = 0; hour < row.length; hour++) {
            DUE.is(name + ": bought at " + hour, x.tell(0, hour, 20), row[hour]);
        }
        DUE.is(name + ": it is the PLAN", x.cost(0), cost);
    }

    private static void spent() {
        DUE.says("HOUR by HOUR, from 0 on");
        blind("at the first HOUR", Made.withNeed(10, 2, 10, 1, 1, 1), 20, 1, 0, 1);
        blind("one HOUR alone", Made.withNeed(10, 2, 10, 1), 10, 1);

        DUE.says("SPENT is how many of the latest TERM HOURS, this one too");
        blind("the first of four is too long ago", Made.withNeed(10, 3, 20, 1, 0, 0, 1), 20, 0, 0, 0, 0);
        blind("the first of three is not", Made.withNeed(10, 3, 20, 1, 0, 1, 0), 30, 0, 0, 1, 0);
        blind("this HOUR alone", Made.withNeed(10, 1, 10, 0, 1), 10, 0, 1);
        blind("no HOUR ahead is seen", Made.withNeed(10, 3, 11, 0, 1, 1), 21, 0, 0, 1);
        blind("fewer HOURS than the TERM", Made.withNeed(10, 40, 20, 1, 1, 0), 30, 0, 1, 0);

        DUE.says("have a NEED above what is COUNTED for them (0 at first)");
        blind("HOURS are SPENT, not machines", Made.withNeed(10, 3, 20, 0, 9, 0), 90, 0, 0, 0);
        blind("0 is not above 0", Made.withNeed(10, 3, 1, 0, 0), 0, 0, 0);
        blind("2 is not above 2", Made.withNeed(10, 1, 1, 2, 0), 2, 2, 0);
        blind("36 is above 35", Made.withNeed(10, 1, 1, 36), 36, 36);
        blind("NEED of all", Made.withNeed(10, 1, 1, 0, 10), 10, 0, 10);
    }

    private static void asLongAs() {
        DUE.says("as long as SPENT times RATE is COST or more");
        blind("just the COST", Made.withNeed(10, 2, 20, 1, 1), 30, 0, 1);
        blind("one less than the COST", Made.withNeed(10, 2, 21, 1, 1), 20, 0, 0);
        blind("one more than the COST", Made.withNeed(10, 2, 19, 1, 1), 29, 0, 1);
        blind("one more than an HOUR's RATE", Made.withNeed(10, 2, 11, 1, 1), 21, 0, 1);
        blind("an HOUR's RATE", Made.withNeed(10, 2, 10, 1, 1), 10, 1, 0);
        blind("three at once", Made.withNeed(10, 2, 20, 3, 3), 3 * 20 + 3 * 10, 0, 3);
        blind("the greatest COST is beyond all RATES", Made.withNeed(1000, 40, 100000, 1, 1), 2000, 0, 0);
        BoughtAhead x = new BoughtAhead();
        x.hours(40);
        x.kind(1000);
        x.offer(0, 40, 40000);
        for (int from = 0; from < 40; from += 8) {
            x.needs(2, 0, from, 0x11111111);
        }
        DUE.is("40 HOURS SPENT", x.blind(0), 40000 + 39000);
        DUE.is("bought at the last one", x.tell(0, 39, 20), 1);
        x.reprice(0, 40001);
        DUE.is("one dearer", x.blind(0), 40000);
        DUE.is("nothing is bought", x.about(0, 3), 0);

        DUE.says("(and COST above 0)");
        blind("COST 0", Made.withNeed(10, 2, 0, 9, 9), 180, 0, 0);
        blind("COST 0, nothing NEEDED", Made.withNeed(10, 2, 0, 0, 0), 0, 0, 0);
        blind("COST 1", Made.withNeed(10, 2, 1, 1, 1), 1, 1, 0);
    }

    private static void counted() {
        DUE.says("one more is COUNTED for all these latest HOURS and the TERM - 1 next ones");
        // bought at 1 it is COUNTED for 0 .. 3, so that 4 and 5 are SPENT at 5; then for 3 .. 7
        blind("next ones", Made.withNeed(10, 3, 20, 1, 1, 1, 1, 1, 1, 1, 1), 2 * 20 + 2 * 10, 0, 1, 0, 0, 0, 1, 0, 0);
        // bought at 1 it is COUNTED for 0 and 1 too: at 2 the second machine there is SPENT alone
        blind("latest ones", Made.withNeed(10, 3, 20, 1, 1, 2), 20 + 10 + 10, 0, 1, 0);
        blind("no next one", Made.withNeed(10, 1, 10, 1, 1, 1), 30, 1, 1, 1);
        blind("next ones beyond the last HOUR", Made.withNeed(10, 40, 10, 0, 0, 1), 10, 0, 0, 1);
        // two are COUNTED for 0 .. 2; at 2 two of the four there are SPENT as long as it is one HOUR's RATE
        blind("one more each time", Made.withNeed(10, 2, 10, 0, 2, 4), 2 * 10 + 2 * 10, 0, 2, 2);

        DUE.says("COST of BLIND: of the PLAN that is made of these alone");
        BoughtAhead x = Made.withNeed(10, 3, 20, 1, 1, 1);
        x.offer(0, 1, 1);
        x.buy(0, 0, 9);
        for (int hour = 0; hour < 3; hour++) {
            x.buy(1, hour, 1);
        }
        blind("another OFFER was bought, and this one", x, 30, 0, 1, 0);
        DUE.is("the other OFFER is not any more", x.about(1, 3), 0);
    }

    private static void pay(String name, BoughtAhead x, long... owners) {
        long sum = 0;
        for (int owner = 0; owner < 4; owner++) {
            DUE.is(name + ": OWNER " + owner, x.pays(owner, 0), owners[owner]);
            sum += owners[owner];
        }
        DUE.is(name + ": together", sum, x.cost(0));
    }

    private static void need(BoughtAhead x, int hour, int... owners) {
        for (int owner = 0; owner < 4; owner++) {
            x.need(owner, 0, hour, owners[owner]);
        }
    }

    private static void turns() {
        DUE.says("each HOUR's machines that are not AHEAD cost RATE, those AHEAD nothing more");
        BoughtAhead x = Made.withNeed(10, 1, 7, 0, 0);
        pay("nothing", x, 0, 0, 0, 0);
        need(x, 0, 0, 2, 0, 0);
        pay("none AHEAD", x, 0, 20, 0, 0);
        x.buy(0, 0, 1);
        pay("one AHEAD", x, 0, 17, 0, 0);
        x.buy(0, 0, 2);
        pay("both AHEAD", x, 0, 14, 0, 0);
        x.buy(0, 0, 3);
        pay("one more than NEEDED", x, 0, 21, 0, 0);

        mostYet();

        DUE.says("(less those that it has in this HOUR)");
        BoughtAhead z = Made.withNeed(10, 2, 0, 0, 0);
        need(z, 0, 1, 1, 0, 0);
        need(z, 1, 1, 1, 0, 0);
        z.buy(0, 0, 1);
        pay("in the next HOUR it begins anew", z, 0, 20, 0, 0);
    }

    private static void mostYet() {
        DUE.says("the machines AHEAD go, one by one, to the OWNER who NEEDS most yet");
        BoughtAhead most = Made.withNeed(10, 1, 0, 0);
        need(most, 0, 1, 3, 5, 2);
        most.buy(0, 0, 1);
        pay("one of 5", most, 10, 30, 40, 20);
        most.buy(0, 0, 2);
        pay("one of the 4 that are left", most, 10, 30, 30, 20);

        DUE.says("of several the least");
        BoughtAhead several = Made.withNeed(10, 1, 0, 0);
        need(several, 0, 0, 2, 2, 2);
        int[] next = {1, 2, 3, 1, 2, 3};
        long[] beside = {0, 20, 20, 20};
        for (int i = 0; i < next.length; i++) {
            pay(i + " AHEAD", several, beside);
            several.buy(0, 0, i + 1);
            beside[next[i]] -= 10;
        }
        pay("all AHEAD", several, beside);

        DUE.says("what is NEEDED beside costs its OWNER RATE");
        BoughtAhead y = Made.withNeed(10, 1, 0, 0);
        need(y, 0, 1, 2, 3, 4);
        next = new int[] {3, 2, 3, 1, 2, 3, 0, 1, 2, 3};
        beside = new long[] {10, 20, 30, 40};
        pay("none AHEAD", y, beside);
        for (int i = 0; i < next.length; i++) {
            y.buy(0, 0, i + 1);
            beside[next[i]] -= 10;
            pay(i + 1 + " AHEAD", y, beside);
        }
        y.buy(0, 0, 60);
        pay("60 AHEAD", y, 0, 0, 0, 0);
    }

    private static void parted() {
        DUE.says("What OFFERS cost together is parted by how many machines AHEAD each OWNER had in all HOURS: cut");
        BoughtAhead x = Made.withNeed(10, 1, 5, 0, 0, 0);
        x.offer(0, 2, 5);
        need(x, 0, 0, 0, 1, 0);
        need(x, 1, 1, 0, 0, 0);
        need(x, 2, 0, 0, 1, 0);
        x.buy(0, 0, 1);
        x.buy(1, 1, 1);
        pay("10 by 1 and 2", x, 3, 0, 7, 0);
        BoughtAhead dear = Made.withNeed(10, 40, 100000, new int[40]);
        for (int offer = 0; offer < 6; offer++) {
            dear.offer(0, 40, 100000);
            for (int hour = 0; hour < 40; hour++) {
                dear.buy(offer, hour, 60);
            }
        }
        need(dear, 39, 0, 9, 5, 0);
        pay("1440000000 by 9 and 5", dear, 0, 925714286, 514285714, 0);

        leftOver();

        DUE.says("(OWNER 0 if none had any)");
        BoughtAhead z = Made.withNeed(10, 1, 7, 0, 0);
        z.buy(0, 0, 3);
        pay("nothing NEEDED", z, 21, 0, 0, 0);
        need(z, 1, 0, 0, 0, 4);
        pay("nothing NEEDED where they are", z, 21, 0, 0, 40);
        need(z, 0, 0, 0, 0, 1);
        pay("one had one", z, 0, 0, 0, 61);
    }

    private static void leftOver() {
        DUE.says("cut, and what is left over is paid by the OWNER who had most");
        BoughtAhead y = Made.withNeed(10, 1, 25, 0);
        need(y, 0, 1, 0, 1, 2);
        y.buy(0, 0, 4);
        pay("100 by 1, 1 and 2: nothing is left over", y, 25, 0, 25, 50);
        y.buy(0, 0, 5);
        y.reprice(0, 3);
        pay("15 by 1, 1 and 2: 3, 3, 7 and two left over", y, 3, 0, 3, 9);
        need(y, 0, 1, 2, 1, 0);
        pay("15 by 1, 2 and 1", y, 3, 9, 3, 0);

        DUE.says("what is left over is paid by the OWNER who had most, of several the least");
        need(y, 0, 0, 1, 1, 1);
        y.reprice(0, 16);
        pay("80 by 1, 1 and 1", y, 0, 28, 26, 26);
        need(y, 0, 1, 2, 2, 1);
        y.buy(0, 0, 6);
        y.reprice(0, 7);
        pay("42 by 1, 2, 2 and 1: nothing is left over", y, 7, 14, 14, 7);
        y.buy(0, 0, 7);
        pay("49 by 1, 2, 2 and 1: 8, 16, 16, 8 and one left over", y, 8, 17, 16, 8);
    }
}
