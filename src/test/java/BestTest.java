import java.util.Random;

/** Promises 12 to 14: BEST, PRICES and MORE, worked out by hand and held against a search through all there are. */
public final class BestTest {
    private static final Due DUE = new Due("BestTest");
    private static final int NO_MORE = -1000000000;

    public static void main(String[] args) {
        none();
        noOffers();
        twoInARow();
        crossing();
        free();
        cutShort();
        unboundedBuying();
        leavesAllElse();
        priceFirst();
        sixOffers();
        ofItsKindAlone();
        for (int seed = 0; seed < 400; seed++) {
            againstAll(new Random(seed), seed);
        }
        DUE.end();
    }

    private static void prices(String name, BoughtAhead x, int... row) {
        for (int hour = 0; hour < row.length; hour++) {
            DUE.is(name + ": price of " + hour, x.price(0, hour), row[hour]);
        }
    }

    private static void none() {
        BoughtAhead x = Made.withOffers(10, new int[] {1, 1}, new int[][] {{2, 15}});
        for (int kind : new int[] {-1, 1, 3, Integer.MIN_VALUE, Integer.MAX_VALUE}) {
            DUE.is("best(" + kind + ")", x.best(kind), -1);
            DUE.is("price(" + kind + ", 0)", x.price(kind, 0), -1);
            DUE.is("more(" + kind + ", 0, 1)", x.more(kind, 0, 1), NO_MORE);
        }
        for (int hour : new int[] {-1, 2, 40, Integer.MIN_VALUE, Integer.MAX_VALUE}) {
            DUE.is("price(0, " + hour + ")", x.price(0, hour), -1);
            DUE.is("more(0, " + hour + ", 1)", x.more(0, hour, 1), NO_MORE);
        }
        for (int n : new int[] {-61, 61, Integer.MIN_VALUE, Integer.MAX_VALUE}) {
            DUE.is("more(0, 0, " + n + ")", x.more(0, 0, n), NO_MORE);
        }
        DUE.is("more(0, 0, 0)", x.more(0, 0, 0), 0);
    }

    private static void noOffers() {
        BoughtAhead x = Made.withOffers(10, new int[] {3, 0, 36}, new int[][] {});
        DUE.is("no OFFERS: best", x.best(0), 390);
        prices("no OFFERS", x, 10, 10, 10);
        DUE.is("60 more", x.more(0, 1, 60), 600);
        DUE.is("60 fewer, of 36", x.more(0, 2, -60), -360);
        DUE.is("60 fewer, of none", x.more(0, 1, -60), 0);
    }

    /** Two machines in a row are bought; windows of three are 20 at most, and late PRICES come first. */
    private static void twoInARow() {
        BoughtAhead x = Made.withOffers(10, new int[] {1, 1, 1, 1, 1, 1}, new int[][] {{3, 20}});
        DUE.is("two in a row: best", x.best(0), 40);
        prices("two in a row", x, 0, 10, 10, 0, 10, 10);
        DUE.is("one fewer at the edge", x.more(0, 0, -1), 0);
        DUE.is("one more", x.more(0, 2, 1), 10);
    }

    /** Two machines overlap in the middle HOUR: what is NEEDED does not fall apart into layers. */
    private static void crossing() {
        BoughtAhead x = Made.withOffers(2, new int[] {1, 2, 1}, new int[][] {{2, 3}});
        DUE.is("crossing: best", x.best(0), 6);
        prices("crossing", x, 2, 1, 2);
        DUE.is("one more in the middle", x.more(0, 1, 1), 2);
        DUE.is("one fewer in the middle", x.more(0, 1, -1), -1);
        DUE.is("none in the middle", x.more(0, 1, -60), -2);
    }

    private static void free() {
        BoughtAhead x = Made.withOffers(7, new int[] {5, 0, 36, 1}, new int[][] {{2, 0}, {4, 20}});
        DUE.is("free: best", x.best(0), 0);
        prices("free", x, 0, 0, 0, 0);
        DUE.is("free: more", x.more(0, 2, 60), 0);
        x.reprice(0, 100000);
        DUE.is("not free any more", x.best(0), 20 + 4 * 7 + 35 * 7);
        BoughtAhead none = Made.withOffers(1000, new int[40], new int[][] {{40, 0}});
        DUE.is("nothing NEEDED, all free", none.price(0, 39), 0);
    }

    private static void cutShort() {
        BoughtAhead x = Made.withOffers(10, new int[] {0, 0, 2}, new int[][] {{40, 9}});
        DUE.is("cut short: best", x.best(0), 18);
        prices("cut short", x, 0, 0, 9);
        x.reprice(0, 12);
        DUE.is("cut short, too dear", x.best(0), 20);
        prices("cut short, too dear", x, 0, 2, 10);
        x.hours(40);
        DUE.is("more HOURS", x.best(0), 20);
        DUE.is("the last HOUR counts first", x.price(0, 39), 2);
        DUE.is("the one that is NEEDED", x.price(0, 2), 10);
    }

    /** BEST and MORE buy as many as they like, though a PLAN that is told holds 60 at most. */
    private static void unboundedBuying() {
        BoughtAhead x = Made.withOffers(1000, new int[] {36, 36}, new int[][] {{2, 1}});
        DUE.is("36 of one", x.best(0), 36);
        DUE.is("96 of one", x.more(0, 0, 60), 60);
        x.buy(0, 0, 3);
        DUE.is("the PLAN does not matter", x.best(0), 36);
        DUE.is("most of all", Made.withOffers(1000, full(40, 36), new int[][] {}).best(0), 40L * 36 * 1000);
    }

    private static int[] full(int hours, int n) {
        int[] row = new int[hours];
        java.util.Arrays.fill(row, n);
        return row;
    }

    /** Asking changes nothing: not NEED, not the PLAN, not the next answer. */
    private static void leavesAllElse() {
        BoughtAhead x = Made.withOffers(2, new int[] {1, 2, 1}, new int[][] {{2, 3}});
        x.buy(0, 1, 2);
        for (int i = 0; i < 3; i++) {
            DUE.is("more", x.more(0, 1, 2), 4);
            DUE.is("fewer", x.more(0, 1, -2), -2);
            DUE.is("best", x.best(0), 6);
            DUE.is("price", x.price(0, 1), 1);
            DUE.is("NEED", x.tell(0, 1, 0), 2);
            DUE.is("PLAN", x.tell(0, 1, 20), 2);
            DUE.is("cost", x.cost(0), 2 + 6);
        }
    }

    private static void priceFirst() {
        BoughtAhead x = Made.withOffers(2, new int[] {1, 2, 1}, new int[][] {{2, 3}});
        prices("not asked for the BEST before", x, 2, 1, 2);
        x.need(0, 0, 1, 1);
        DUE.is("after another NEED", x.price(0, 1), 1);
        x.reprice(0, 2);
        DUE.is("after another COST", x.price(0, 1), 0);
        x.hours(2);
        DUE.is("after other HOURS", x.price(0, 1), 2);
    }

    /** Each OFFER is the cheapest for its own run of HOURS, and the longest is cut short by none. */
    private static void sixOffers() {
        int[][] offers = {{1, 9}, {2, 17}, {3, 24}, {4, 30}, {5, 35}, {6, 39}};
        long[] due = {0, 9, 17, 24, 30, 35, 39};
        for (int run = 1; run <= 6; run++) {
            int[] need = new int[40];
            java.util.Arrays.fill(need, 12, 12 + run, 2);
            BoughtAhead x = Made.withOffers(10, need, offers);
            DUE.is("a run of " + run, x.best(0), 2 * due[run]);
            DUE.is("one more beside it", x.more(0, 12 + run, 2), 2 * (run < 6 ? due[run + 1] - due[run] : 9));
        }
    }

    private static void ofItsKindAlone() {
        BoughtAhead x = Made.withOffers(10, new int[] {1, 1, 1}, new int[][] {});
        x.kind(4);
        x.offer(1, 3, 9);
        x.need(0, 1, 0, 1);
        x.need(0, 1, 1, 1);
        x.need(0, 1, 2, 1);
        DUE.is("KIND 0 has no OFFER", x.best(0), 30);
        DUE.is("KIND 1 has one", x.best(1), 9);
        DUE.is("price of KIND 0", x.price(0, 0), 10);
        DUE.is("price of KIND 1", x.price(1, 0), 1);
        DUE.is("more of KIND 0", x.more(0, 0, 1), 10);
        DUE.is("more of KIND 1", x.more(1, 0, 1), 4);
    }

    private static void againstAll(Random random, int seed) {
        int hours = 1 + random.nextInt(4);
        int rate = 1 + random.nextInt(5);
        int[] need = new int[hours];
        for (int hour = 0; hour < hours; hour++) {
            need[hour] = random.nextInt(3);
        }
        int[][] offers = new int[random.nextInt(3)][];
        for (int i = 0; i < offers.length; i++) {
            int term = 1 + random.nextInt(5);
            offers[i] = new int[] {term, random.nextInt(rate * Math.min(term, hours) + 2)};
        }
        BoughtAhead x = Made.withOffers(rate, need, offers);
        String name = "search " + seed;
        long best = AllThereAre.leastCost(rate, need, offers);
        DUE.is(name + ": best", x.best(0), best);
        int[] row = AllThereAre.greatestProof(rate, need, offers, best);
        DUE.yes(name + ": one row has the greatest sums", row != null);
        if (row != null) {
            prices(name, x, row);
        }
        for (int hour = 0; hour < hours; hour++) {
            int n = random.nextInt(5) - 3;
            int[] other = need.clone();
            other[hour] = Math.max(0, need[hour] + n);
            long due = AllThereAre.leastCost(rate, other, offers) - best;
            DUE.is(name + ": more(0, " + hour + ", " + n + ")", x.more(0, hour, n), due);
        }
    }
}
