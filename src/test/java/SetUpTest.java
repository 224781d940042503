/** Promises 1 to 5, 17 and 18: a new object, HOURS, KINDS, OFFERS and what is told about them. */
public final class SetUpTest {
    private static final Due DUE = new Due("SetUpTest");

    public static void main(String[] args) {
        newObject();
        hours();
        hoursForget();
        kinds();
        offers();
        reprice();
        about();
        count();
        DUE.end();
    }

    private static void newObject() {
        BoughtAhead x = new BoughtAhead();
        DUE.is("new: HOURS", x.count(0), 24);
        DUE.is("new: KINDS", x.count(1), 0);
        DUE.is("new: OFFERS", x.count(2), 0);
        for (int k = 0; k < 3; k++) {
            DUE.no("new: again(" + k + ")", x.again(k));
        }
        DUE.is("new: about(0, 10)", x.about(0, 10), -1);
        DUE.is("new: about(0, 0)", x.about(0, 0), -1);
        DUE.is("new: tell", x.tell(0, 0, 0), -1);
        DUE.is("new: cost", x.cost(0), -1);
        DUE.is("new: best", x.best(0), -1);
        DUE.is("new: price", x.price(0, 0), -1);
        DUE.is("new: more", x.more(0, 0, 0), -1000000000);
        DUE.is("new: blind", x.blind(0), -1);
        DUE.is("new: pays", x.pays(0, 0), -1);
        DUE.no("new: clear", x.clear(0));
        DUE.no("new: need", x.need(0, 0, 0, 1));
        DUE.no("new: buy", x.buy(0, 0, 1));
    }

    private static void hours() {
        BoughtAhead x = new BoughtAhead();
        for (int h : new int[] {0, -1, 41, 64, Integer.MIN_VALUE, Integer.MAX_VALUE}) {
            DUE.no("hours(" + h + ")", x.hours(h));
            DUE.is("HOURS stay", x.count(0), 24);
        }
        for (int h : new int[] {1, 40, 24, 2, 39}) {
            DUE.yes("hours(" + h + ")", x.hours(h));
            DUE.is("HOURS", x.count(0), h);
        }
    }

    private static void hoursForget() {
        BoughtAhead x = new BoughtAhead();
        x.kind(10);
        x.offer(0, 8, 20);
        x.need(1, 0, 4, 3);
        x.need(1, 0, 5, 4);
        x.buy(0, 4, 2);
        x.buy(0, 5, 7);
        DUE.yes("hours(5)", x.hours(5));
        DUE.is("hour 4 is the last", x.tell(0, 4, 0), 3);
        DUE.is("hour 5 is none", x.tell(0, 5, 0), -1);
        DUE.is("bought in all", x.about(0, 3), 2);
        DUE.is("NEED in all", x.about(0, 12), 3);
        DUE.is("cost of what is cut short", x.cost(0), 2 * 20 + 10);
        DUE.yes("hours(24)", x.hours(24));
        DUE.is("NEED of hour 5 is 0 as it comes again", x.tell(0, 5, 0), 0);
        DUE.is("its OWNER's too", x.tell(0, 5, 11), 0);
        DUE.is("PLAN of hour 5 is 0 as it comes again", x.tell(0, 5, 20), 0);
        DUE.is("hour 4 stays", x.tell(0, 4, 20), 2);
        DUE.is("AHEAD in the hours that come again", x.tell(0, 11, 1), 2);
        DUE.is("not beyond the TERM", x.tell(0, 12, 1), 0);
        DUE.no("hours(0) is refused", x.hours(0));
        DUE.is("and forgets nothing", x.tell(0, 4, 0), 3);
    }

    private static void kinds() {
        BoughtAhead x = new BoughtAhead();
        for (int rate : new int[] {0, -1, 1001, Integer.MIN_VALUE, Integer.MAX_VALUE}) {
            DUE.is("kind(" + rate + ")", x.kind(rate), -1);
        }
        DUE.is("KINDS", x.count(1), 0);
        DUE.is("kind(1)", x.kind(1), 0);
        DUE.is("kind(1000)", x.kind(1000), 1);
        DUE.is("kind(500)", x.kind(500), 2);
        DUE.is("a fourth", x.kind(500), -1);
        DUE.is("KINDS", x.count(1), 3);
        DUE.is("RATE 0", x.about(0, 10), 1);
        DUE.is("RATE 1", x.about(1, 10), 1000);
        DUE.is("RATE 2", x.about(2, 10), 500);
        DUE.is("RATE 3", x.about(3, 10), -1);
    }

    private static void offers() {
        BoughtAhead x = new BoughtAhead();
        DUE.is("no KIND", x.offer(0, 1, 1), -1);
        x.kind(5);
        int[][] wrong = {
            {1, 1, 1}, {-1, 1, 1}, {3, 1, 1}, {0, 0, 1}, {0, 41, 1}, {0, -1, 1}, {0, 1, -1}, {0, 1, 100001},
            {Integer.MIN_VALUE, 1, 1}, {0, Integer.MAX_VALUE, 1}, {0, 1, Integer.MIN_VALUE},
        };
        for (int[] w : wrong) {
            DUE.is("offer(" + w[0] + ", " + w[1] + ", " + w[2] + ")", x.offer(w[0], w[1], w[2]), -1);
        }
        DUE.is("OFFERS", x.count(2), 0);
        DUE.is("offer(0, 1, 0)", x.offer(0, 1, 0), 0);
        DUE.is("offer(0, 40, 100000)", x.offer(0, 40, 100000), 1);
        for (int i = 2; i < 6; i++) {
            DUE.is("offer " + i, x.offer(0, i, i), i);
        }
        DUE.is("a seventh", x.offer(0, 1, 1), -1);
        DUE.is("OFFERS", x.count(2), 6);
        DUE.is("TERM 1", x.about(1, 1), 40);
        DUE.is("COST 1", x.about(1, 2), 100000);
    }

    private static void reprice() {
        BoughtAhead x = new BoughtAhead();
        DUE.no("none there", x.reprice(0, 5));
        x.kind(10);
        x.offer(0, 3, 20);
        for (int cost : new int[] {-1, 100001, Integer.MIN_VALUE, Integer.MAX_VALUE}) {
            DUE.no("reprice(0, " + cost + ")", x.reprice(0, cost));
            DUE.is("COST stays", x.about(0, 2), 20);
        }
        DUE.no("reprice(1, 5)", x.reprice(1, 5));
        DUE.no("reprice(-1, 5)", x.reprice(-1, 5));
        DUE.no("reprice(6, 5)", x.reprice(6, 5));
        x.need(0, 0, 0, 1);
        x.need(0, 0, 1, 1);
        x.need(0, 0, 2, 1);
        x.buy(0, 0, 1);
        DUE.is("BEST before", x.best(0), 20);
        for (int cost : new int[] {0, 100000, 12}) {
            DUE.yes("reprice(0, " + cost + ")", x.reprice(0, cost));
            DUE.is("COST", x.about(0, 2), cost);
            DUE.is("COST of the PLAN", x.cost(0), cost);
            DUE.is("BEST", x.best(0), Math.min(30, cost));
        }
        DUE.is("TERM stays", x.about(0, 1), 3);
    }

    private static void about() {
        BoughtAhead x = new BoughtAhead();
        x.kind(7);
        x.kind(9);
        x.offer(1, 4, 30);
        x.offer(1, 5, 31);
        x.offer(0, 6, 32);
        x.buy(0, 0, 60);
        x.buy(0, 23, 60);
        x.buy(1, 3, 2);
        x.need(0, 1, 2, 9);
        x.need(3, 1, 2, 8);
        x.need(2, 1, 23, 4);
        long[][] due = {
            {0, 0, 1}, {1, 0, 1}, {2, 0, 0}, {3, 0, -1}, {-1, 0, -1},
            {0, 1, 4}, {1, 1, 5}, {2, 1, 6}, {3, 1, -1},
            {0, 2, 30}, {1, 2, 31}, {2, 2, 32}, {3, 2, -1},
            {0, 3, 120}, {1, 3, 2}, {2, 3, 0}, {3, 3, -1},
            {0, 10, 7}, {1, 10, 9}, {2, 10, -1}, {-1, 10, -1},
            {0, 11, 1}, {1, 11, 2}, {2, 11, -1},
            {0, 12, 0}, {1, 12, 21}, {2, 12, -1},
            {0, 13, 0}, {1, 13, 17}, {2, 13, -1},
            {0, 4, -1}, {0, 9, -1}, {0, 14, -1}, {0, -1, -1},
            {0, Integer.MIN_VALUE, -1}, {0, Integer.MAX_VALUE, -1},
            {Integer.MIN_VALUE, 0, -1}, {Integer.MAX_VALUE, 10, -1},
        };
        for (long[] d : due) {
            DUE.is("about(" + d[0] + ", " + d[1] + ")", x.about((int) d[0], (int) d[1]), d[2]);
        }
    }

    private static void count() {
        BoughtAhead x = new BoughtAhead();
        x.hours(7);
        x.kind(3);
        x.kind(4);
        x.offer(0, 1, 1);
        x.offer(0, 1, 1);
        x.offer(1, 1, 1);
        DUE.is("count(0)", x.count(0), 7);
        DUE.is("count(1)", x.count(1), 2);
        DUE.is("count(2)", x.count(2), 3);
        for (int what : new int[] {-1, 3, 10, Integer.MIN_VALUE, Integer.MAX_VALUE}) {
            DUE.is("count(" + what + ")", x.count(what), -1);
        }
    }
}
