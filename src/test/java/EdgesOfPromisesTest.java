import java.util.function.Consumer;

/** The sentences of 'Promise 1' to 'Promise 11' that name an edge, each with a test of its own, worked out by hand. */
public final class EdgesOfPromisesTest {
    private static final Due DUE = new Due("EdgesOfPromisesTest");
    private static final int MIN = Integer.MIN_VALUE;
    private static final int MAX = Integer.MAX_VALUE;

    public static void main(String[] args) {
        newObject();
        hours();
        hoursThatComeAgain();
        hoursThatStay();
        kind();
        offer();
        reprice();
        need();
        needs();
        needsOutOfHours();
        needsAboveNine();
        buy();
        clear();
        tell();
        tellNone();
        costOfNone();
        DUE.end();
    }

    private static void nothingChanges(String call, Consumer<BoughtAhead> calls, Consumer<BoughtAhead> one) {
        DUE.yes(call + " changes nothing", Told.after(calls.andThen(one)).isAs(Told.after(calls)));
    }

    /** Two KINDS, three OFFERS, NEED and PLAN in the first and the last HOUR, and an image. */
    private static void ordinary(BoughtAhead x) {
        x.hours(10);
        x.kind(10);
        x.kind(20);
        x.offer(0, 3, 20);
        x.offer(1, 2, 30);
        x.offer(0, 1, 9);
        x.image(1);
        x.needs(0, 0, 0, 0x12345678);
        x.needs(3, 0, 2, 0x87654321);
        x.need(1, 1, 0, 9);
        x.need(2, 1, 9, 8);
        x.buy(0, 0, 2);
        x.buy(1, 9, 3);
        x.buy(2, 9, 60);
    }

    private static void newObject() {
        DUE.says("Promise 1: No KINDS, no OFFERS; 24 HOURS; no images.");
        BoughtAhead filled = new BoughtAhead();
        ordinary(filled);
        BoughtAhead x = new BoughtAhead();
        DUE.is("HOURS", x.count(0), 24);
        DUE.is("KINDS", x.count(1), 0);
        DUE.is("OFFERS", x.count(2), 0);
        for (int k = 0; k < 3; k++) {
            DUE.no("again(" + k + ")", x.again(k));
            DUE.is("RATE of KIND " + k, x.about(k, 10), -1);
            DUE.is("TERM of OFFER " + k, x.about(k, 1), -1);
        }
        DUE.is("the first KIND", x.kind(3), 0);
        DUE.is("the first OFFER", x.offer(0, 1, 1), 0);
        DUE.is("NEED in all", x.about(0, 12), 0);
        DUE.is("bought in all", x.about(0, 3), 0);
        DUE.is("the last HOUR", x.tell(0, 23, 0), 0);
        DUE.is("no HOUR", x.tell(0, 24, 0), -1);
    }

    private static void hours() {
        DUE.says("Promise 2: So many HOURS [..] : true; false for others.");
        BoughtAhead x = new BoughtAhead();
        for (int h = 1; h <= 40; h++) {
            DUE.yes("hours(" + h + ")", x.hours(h));
            DUE.is("HOURS", x.count(0), h);
        }
        for (int h : new int[] {0, 41, -1, -24, 1 << 30, MIN, MAX}) {
            DUE.no("hours(" + h + ")", x.hours(h));
            DUE.is("HOURS", x.count(0), 40);
            nothingChanges("hours(" + h + ")", EdgesOfPromisesTest::ordinary, y -> y.hours(h));
        }
    }

    private static void hoursThatComeAgain() {
        DUE.says("Promise 2: NEED and PLAN of HOURS that are no more are 0, also if they come again");
        for (int h : new int[] {1, 10, 39}) {
            BoughtAhead x = new BoughtAhead();
            x.hours(40);
            for (int kind = 0; kind < 3; kind++) {
                x.kind(10);
                x.offer(kind, 1, 5);
            }
            for (int kind = 0; kind < 3; kind++) {
                x.offer(kind, 1, 5);
            }
            atEdges(x, h, 9, 60);
            x.hours(h);
            hourIs("the last one stays", x, h - 1, 9, 60);
            DUE.is("NEED of all HOURS", x.about(1, 12), 36);
            DUE.is("bought in all", x.about(5, 3), 60);
            DUE.is("cost", x.cost(2), 120 * 5);
            x.hours(h + 1);
            hourIs("one comes again", x, h, 0, 0);
            x.hours(40);
            hourIs("all come again", x, h, 0, 0);
            hourIs("all come again", x, 39, 0, 0);
            hourIs("the last one of then stays", x, h - 1, 9, 60);
            DUE.is("NEED of all HOURS", x.about(1, 12), 36);
            DUE.is("bought in all", x.about(5, 3), 60);
        }
    }

    /** NEED of all OWNERS for all KINDS, and PLAN of all OFFERS, around the edge at h and in the last HOUR. */
    private static void atEdges(BoughtAhead x, int h, int need, int bought) {
        for (int hour : new int[] {h - 1, h, 39}) {
            for (int i = 0; i < 12; i++) {
                x.need(i % 4, i / 4, hour, need);
            }
            for (int offer = 0; offer < 6; offer++) {
                x.buy(offer, hour, bought);
            }
        }
    }

    private static void hourIs(String name, BoughtAhead x, int hour, int need, int bought) {
        for (int i = 0; i < 12; i++) {
            DUE.is(name + ": NEED in " + hour, x.tell(i / 4, hour, 10 + i % 4), need);
        }
        for (int offer = 0; offer < 6; offer++) {
            DUE.is(name + ": PLAN of " + hour, x.tell(offer % 3, hour, 20 + offer), bought);
        }
    }

    private static void hoursThatStay() {
        DUE.says("Promise 2: of HOURS that are no more");
        nothingChanges("hours(10), of 10", EdgesOfPromisesTest::ordinary, x -> x.hours(10));
        nothingChanges("40 HOURS for a while", EdgesOfPromisesTest::ordinary, x -> {
            x.hours(40);
            x.hours(10);
        });
        BoughtAhead x = Made.withKind(10, 10);
        x.offer(0, 5, 20);
        x.buy(0, 7, 2);
        DUE.yes("hours(8)", x.hours(8));
        DUE.yes("hours(13)", x.hours(13));
        DUE.is("bought at the last one, it is there when HOURS come again", x.tell(0, 11, 1), 2);
        DUE.is("for its TERM", x.tell(0, 12, 1), 0);
        DUE.yes("an HOUR that came again is one", x.need(0, 0, 12, 4));
        DUE.is("NEED", x.tell(0, 12, 0), 4);
    }

    private static void kind() {
        DUE.says("Promise 3: NONE: there are 3, or another RATE.");
        BoughtAhead x = new BoughtAhead();
        int[] rates = {1, 1000, 500};
        for (int i = 0; i < 3; i++) {
            for (int wrong : new int[] {0, 1001, -1, MIN, MAX}) {
                DUE.is("kind(" + wrong + ")", x.kind(wrong), -1);
            }
            DUE.is("KINDS", x.count(1), i);
            DUE.is("kind(" + rates[i] + ")", x.kind(rates[i]), i);
        }
        for (int rate : new int[] {1, 1000, 500, 0, 1001, MIN, MAX}) {
            DUE.is("a fourth, " + rate, x.kind(rate), -1);
        }
        for (int i = 0; i < 3; i++) {
            DUE.is("RATE of " + i, x.about(i, 10), rates[i]);
        }
    }

    private static void offer() {
        DUE.says("Promise 4: NONE: there are 6, or other numbers.");
        BoughtAhead x = new BoughtAhead();
        DUE.is("no KIND yet", x.offer(0, 1, 1), -1);
        x.kind(10);
        for (int i = 0; i < 6; i++) {
            int[][] wrong = {{1, 1, 1}, {-1, 1, 1}, {0, 0, 1}, {0, 41, 1}, {0, 1, -1}, {0, 1, 100001},
                {MIN, 1, 1}, {MAX, 1, 1}, {0, MIN, 1}, {0, MAX, 1}, {0, 1, MIN}, {0, 1, MAX}};
            for (int[] w : wrong) {
                DUE.is("offer(" + w[0] + ", " + w[1] + ", " + w[2] + ")", x.offer(w[0], w[1], w[2]), -1);
            }
            DUE.is("OFFERS", x.count(2), i);
            DUE.is("OFFER " + i, x.offer(0, i % 2 == 0 ? 1 : 40, i % 3 == 0 ? 0 : 100000), i);
        }
        DUE.is("a seventh", x.offer(0, 1, 1), -1);
        x.kind(10);
        DUE.is("a seventh, of another KIND", x.offer(1, 1, 1), -1);
        DUE.is("OFFERS", x.count(2), 6);
        DUE.is("OFFERS of KIND 1", x.about(1, 11), 0);
    }

    private static void reprice() {
        DUE.says("Promise 5: An OFFER's COST is another one: true");
        BoughtAhead x = Made.withKind(2, 10);
        x.offer(0, 2, 15);
        x.offer(0, 2, 19);
        x.need(0, 0, 0, 1);
        x.need(0, 0, 1, 1);
        x.buy(0, 0, 1);
        for (int cost : new int[] {0, 100000, 100000, 1, 0, 15}) {
            DUE.yes("reprice(0, " + cost + ")", x.reprice(0, cost));
            DUE.is("COST", x.about(0, 2), cost);
            DUE.is("what was bought costs it", x.cost(0), cost);
            DUE.is("BEST", x.best(0), Math.min(19, cost));
            DUE.is("price", x.price(0, 1), Math.min(10, cost));
        }
        DUE.is("the other OFFER's", x.about(1, 2), 19);
        DUE.is("TERM", x.about(0, 1), 2);
        DUE.is("bought", x.about(0, 3), 1);
        DUE.yes("the last OFFER", x.reprice(1, 7));
        DUE.is("its COST", x.about(1, 2), 7);

        DUE.says("Promise 5: false: there is none such, or another COST.");
        for (int cost : new int[] {-1, 100001, MIN, MAX}) {
            DUE.no("reprice(0, " + cost + ")", x.reprice(0, cost));
            nothingChanges("reprice(0, " + cost + ")", EdgesOfPromisesTest::ordinary, y -> y.reprice(0, cost));
        }
        for (int offer : new int[] {-1, 2, 5, 6, MIN, MAX}) {
            DUE.no("reprice(" + offer + ", 1)", x.reprice(offer, 1));
        }
    }

    private static void need() {
        DUE.says("Promise 6: An OWNER's NEED in an HOUR: true");
        BoughtAhead x = Made.withKind(10, 10);
        x.kind(20);
        DUE.yes("9", x.need(3, 1, 9, 9));
        DUE.yes("9, again", x.need(3, 1, 9, 9));
        DUE.is("it is set, not added", x.tell(1, 9, 13), 9);
        DUE.yes("4", x.need(3, 1, 9, 4));
        DUE.is("less", x.tell(1, 9, 13), 4);
        DUE.is("another OWNER's", x.tell(1, 9, 12), 0);
        DUE.is("of another KIND", x.tell(0, 9, 13), 0);
        DUE.is("in another HOUR", x.tell(1, 8, 13), 0);
        DUE.yes("0", x.need(3, 1, 9, 0));
        DUE.is("nothing", x.about(1, 12), 0);

        DUE.says("Promise 6: false: there is none such (of any), or n is not 0 .. 9.");
        int[][] wrong = {{-1, 0, 0, 1}, {4, 0, 0, 1}, {0, -1, 0, 1}, {0, 2, 0, 1}, {0, 0, -1, 1}, {0, 0, 10, 1},
            {0, 0, 0, -1}, {0, 0, 0, 10}, {MIN, 0, 0, 1}, {MAX, 0, 0, 1}, {0, MIN, 0, 1}, {0, MAX, 0, 1},
            {0, 0, MIN, 1}, {0, 0, MAX, 1}, {0, 0, 0, MIN}, {0, 0, 0, MAX}};
        for (int[] w : wrong) {
            String call = "need(" + w[0] + ", " + w[1] + ", " + w[2] + ", " + w[3] + ")";
            DUE.no(call, x.need(w[0], w[1], w[2], w[3]));
            nothingChanges(call, EdgesOfPromisesTest::ordinary, y -> y.need(w[0], w[1], w[2], w[3]));
        }
    }

    private static void eight(String name, BoughtAhead x, int from, int... row) {
        for (int i = 0; i < 8; i++) {
            DUE.is(name + ": NEED in " + (from + i), x.tell(0, from + i, 12), row[i]);
        }
    }

    private static void needs() {
        DUE.says("Promise 7: An OWNER's NEED in eight HOURS from one on, by half bytes, the highest first: true");
        BoughtAhead x = Made.withKind(10, 10);
        DUE.yes("from the first HOUR on", x.needs(2, 0, 0, 0x12345678));
        eight("from the first", x, 0, 1, 2, 3, 4, 5, 6, 7, 8);
        DUE.is("not beyond", x.tell(0, 8, 12), 0);
        DUE.yes("up to the last HOUR", x.needs(2, 0, 2, 0x98765432));
        eight("up to the last", x, 2, 9, 8, 7, 6, 5, 4, 3, 2);
        DUE.is("not before", x.tell(0, 1, 12), 2);
        DUE.is("NEED of the others", x.tell(0, 4, 0), 7);
        DUE.yes("nothing", x.needs(2, 0, 1, 0));
        eight("nothing", x, 1, 0, 0, 0, 0, 0, 0, 0, 0);
        DUE.is("before it", x.tell(0, 0, 12), 1);
        DUE.is("beyond it", x.tell(0, 9, 12), 2);
        DUE.yes("9 everywhere", x.needs(2, 0, 0, 0x99999999));
        eight("9 everywhere", x, 0, 9, 9, 9, 9, 9, 9, 9, 9);
        DUE.yes("the smallest int", x.needs(2, 0, 0, MIN));
        eight("the smallest int", x, 0, 8, 0, 0, 0, 0, 0, 0, 0);
        DUE.no("the largest int has half bytes above 9", x.needs(2, 0, 0, MAX));
        eight("the largest int", x, 0, 8, 0, 0, 0, 0, 0, 0, 0);
        DUE.is("another OWNER's", x.tell(0, 0, 11), 0);
    }

    private static void needsOutOfHours() {
        DUE.says("Promise 7: false, and nothing changes: one of these is no HOUR");
        BoughtAhead x = Made.withKind(10, 10);
        for (int from : new int[] {-8, -7, -1, 3, 9, 10, 33, MIN, MIN + 1, MAX, MAX - 6, MAX - 7, MAX - 8}) {
            DUE.no("from " + from, x.needs(0, 0, from, 0x22222222));
            nothingChanges("from " + from, EdgesOfPromisesTest::ordinary, y -> y.needs(0, 0, from, 0x22222222));
        }
        DUE.yes("the last eight", x.needs(0, 0, 2, 0x22222222));
        for (int h = 1; h <= 40; h++) {
            x.hours(h);
            DUE.is("the last eight of " + h, x.needs(0, 0, h - 8, 0) ? 1 : 0, h >= 8 ? 1 : 0);
            DUE.no("the last seven of " + h, x.needs(0, 0, h - 7, 0));
        }
    }

    private static void needsAboveNine() {
        DUE.says("Promise 7: false, and nothing changes: [..] or a half byte is above 9");
        BoughtAhead x = Made.withKind(10, 10);
        for (int place = 0; place < 8; place++) {
            for (int half = 8; half < 16; half++) {
                int eight = 0x22222222 & ~(15 << 4 * place) | half << 4 * place;
                String call = "needs(0, 0, 1, " + Integer.toHexString(eight) + ")";
                DUE.is(call, x.needs(0, 0, 1, eight) ? 1 : 0, half <= 9 ? 1 : 0);
                if (half == 10 || half == 15) {
                    nothingChanges(call, EdgesOfPromisesTest::ordinary, y -> y.needs(0, 0, 1, eight));
                }
            }
        }

        DUE.says("Promise 7: false, and nothing changes: [..] or there is none such (OWNER, KIND)");
        for (int n : new int[] {-1, 4, MIN, MAX}) {
            DUE.no("OWNER " + n, x.needs(n, 0, 0, 0x22222222));
            nothingChanges("OWNER " + n, EdgesOfPromisesTest::ordinary, y -> y.needs(n, 0, 0, 0x22222222));
        }
        for (int n : new int[] {-1, 2, 3, MIN, MAX}) {
            DUE.no("KIND " + n, x.needs(0, n, 0, 0x22222222));
            nothingChanges("KIND " + n, EdgesOfPromisesTest::ordinary, y -> y.needs(0, n, 0, 0x22222222));
        }
    }

    private static void buy() {
        DUE.says("Promise 8: So many of an OFFER are bought at an HOUR by the PLAN: true");
        BoughtAhead x = Made.withKind(10, 10);
        x.offer(0, 3, 20);
        x.offer(0, 3, 20);
        for (int hour : new int[] {0, 9}) {
            DUE.yes("60", x.buy(1, hour, 60));
            DUE.yes("60, again", x.buy(1, hour, 60));
            DUE.is("it is set, not added", x.tell(0, hour, 21), 60);
            DUE.is("the other OFFER", x.tell(0, hour, 20), 0);
        }
        DUE.is("in all", x.about(1, 3), 120);
        DUE.yes("0", x.buy(1, 0, 0));
        DUE.is("none", x.tell(0, 0, 21), 0);
        DUE.is("in all", x.about(1, 3), 60);

        DUE.says("Promise 8: false: there is none such (of either), or n is not 0 .. 60.");
        int[][] wrong = {{-1, 0, 1}, {3, 0, 1}, {6, 0, 1}, {0, -1, 1}, {0, 10, 1}, {0, 0, -1}, {0, 0, 61},
            {MIN, 0, 1}, {MAX, 0, 1}, {0, MIN, 1}, {0, MAX, 1}, {0, 0, MIN}, {0, 0, MAX}};
        for (int[] w : wrong) {
            String call = "buy(" + w[0] + ", " + w[1] + ", " + w[2] + ")";
            DUE.no(call, x.buy(w[0], w[1], w[2]));
            nothingChanges(call, EdgesOfPromisesTest::ordinary, y -> y.buy(w[0], w[1], w[2]));
        }
    }

    private static void clear() {
        DUE.says("Promise 9: The PLAN buys nothing of a KIND any more: true");
        BoughtAhead x = Made.withKind(40, 10);
        DUE.yes("a KIND without OFFERS", x.clear(0));
        x.kind(20);
        x.kind(30);
        for (int offer = 0; offer < 6; offer++) {
            x.offer(offer % 3, 2, 5);
        }
        DUE.yes("an empty PLAN", x.clear(2));
        for (int hour : new int[] {0, 20, 39}) {
            for (int offer = 0; offer < 6; offer++) {
                x.buy(offer, hour, 60);
            }
        }
        x.need(1, 2, 39, 7);
        DUE.yes("clear(2)", x.clear(2));
        for (int offer = 0; offer < 6; offer++) {
            DUE.is("of OFFER " + offer, x.about(offer, 3), offer % 3 == 2 ? 0 : 180);
            DUE.is("at the last HOUR", x.tell(offer % 3, 39, 20 + offer), offer % 3 == 2 ? 0 : 60);
        }
        DUE.is("AHEAD", x.tell(2, 39, 1), 0);
        DUE.is("NEED stays", x.tell(2, 39, 0), 7);
        DUE.is("OFFERS stay", x.about(2, 11), 2);
        DUE.is("cost by the hour", x.cost(2), 7 * 30);

        DUE.says("Promise 9: false if there is none such.");
        DUE.no("no KIND at all", new BoughtAhead().clear(0));
        for (int kind : new int[] {-1, 2, 3, MIN, MAX}) {
            DUE.no("clear(" + kind + ")", Made.withKind(2, 1).clear(kind));
            nothingChanges("clear(" + kind + ")", EdgesOfPromisesTest::ordinary, y -> y.clear(kind));
        }
    }

    private static void tell() {
        DUE.says("Promise 10: 2: how many are NEEDED and not AHEAD, 3: AHEAD and not NEEDED");
        BoughtAhead x = Made.withKind(2, 10);
        x.offer(0, 1, 5);
        x.need(0, 0, 1, 1);
        x.need(3, 0, 1, 1);
        int[][] due = {{0, 2, 0}, {1, 1, 0}, {2, 0, 0}, {3, 0, 1}, {60, 0, 58}};
        for (int[] d : due) {
            x.buy(0, 1, d[0]);
            DUE.is("AHEAD", x.tell(0, 1, 1), d[0]);
            DUE.is("NEEDED and not AHEAD", x.tell(0, 1, 2), d[1]);
            DUE.is("AHEAD and not NEEDED", x.tell(0, 1, 3), d[2]);
            DUE.is("in the other HOUR", x.tell(0, 0, 2), 0);
            DUE.is("in the other HOUR", x.tell(0, 0, 3), 0);
        }

        DUE.says("Promise 10: 10 .. 13: NEED of OWNER what - 10; 20 .. 25: how many of OFFER what - 20 the PLAN buys there");
        BoughtAhead y = Made.withKind(3, 10);
        for (int offer = 0; offer < 6; offer++) {
            DUE.is("OFFER " + offer + " is none yet", y.tell(0, 1, 20 + offer), -1);
            y.offer(0, 3, 20);
            DUE.is("OFFER " + offer + " is bought nowhere", y.tell(0, 1, 20 + offer), 0);
            y.buy(offer, 1, 50 + offer);
        }
        for (int owner = 0; owner < 4; owner++) {
            y.need(owner, 0, 1, 4 + owner);
        }
        for (int offer = 0; offer < 6; offer++) {
            DUE.is("OFFER " + offer, y.tell(0, 1, 20 + offer), 50 + offer);
            DUE.is("OFFER " + offer + " is there, but not bought there", y.tell(0, 2, 20 + offer), 0);
        }
        for (int owner = 0; owner < 4; owner++) {
            DUE.is("OWNER " + owner, y.tell(0, 1, 10 + owner), 4 + owner);
            DUE.is("OWNER " + owner, y.tell(0, 2, 10 + owner), 0);
        }
    }

    private static void tellNone() {
        DUE.says("Promise 10: NONE if there is none such, or for another what.");
        BoughtAhead x = Made.withKind(10, 10);
        x.offer(0, 3, 20);
        x.offer(0, 3, 20);
        for (int what : new int[] {MIN, -1, 4, 9, 14, 19, 22, 25, 26, MAX}) {
            DUE.is("tell(0, 0, " + what + ")", x.tell(0, 0, what), -1);
        }
        for (int what : new int[] {0, 1, 2, 3, 10, 13, 20, 21}) {
            DUE.is("tell(0, 0, " + what + ")", x.tell(0, 0, what), 0);
            DUE.is("tell(0, 9, " + what + ")", x.tell(0, 9, what), 0);
            for (int n : new int[] {-1, 10, MIN, MAX}) {
                DUE.is("tell(0, " + n + ", " + what + ")", x.tell(0, n, what), -1);
            }
            for (int n : new int[] {-1, 1, 3, MIN, MAX}) {
                DUE.is("tell(" + n + ", 0, " + what + ")", x.tell(n, 0, what), -1);
            }
        }
    }

    private static void costOfNone() {
        DUE.says("Promise 11: COST of the PLAN for a KIND. -1: there is none such.");
        DUE.is("no KIND at all", new BoughtAhead().cost(0), -1);
        BoughtAhead x = Made.withKind(40, 1000);
        DUE.is("nothing NEEDED, no OFFERS", x.cost(0), 0);
        for (int kind : new int[] {-1, 1, 3, MIN, MAX}) {
            DUE.is("cost(" + kind + ")", x.cost(kind), -1);
        }
        for (int i = 0; i < 20; i++) {
            x.needs(i / 5, 0, i % 5 * 8, 0x99999999);
        }
        DUE.is("all that can be NEEDED", x.cost(0), 40L * 36 * 1000);
        for (int offer = 0; offer < 6; offer++) {
            x.offer(0, 1, 100000);
            for (int hour = 0; hour < 40; hour++) {
                x.buy(offer, hour, 60);
            }
        }
        DUE.is("all that can be bought", x.cost(0), 6L * 40 * 60 * 100000);
    }
}
