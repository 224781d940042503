import java.util.function.Consumer;

/** The sentences of 'Promise 12' to 'Promise 20' that name an edge, each with a test of its own, worked out by hand. */
public final class EdgesOfLaterPromisesTest {
    private static final Due DUE = new Due("EdgesOfLaterPromisesTest");
    private static final int MIN = Integer.MIN_VALUE;
    private static final int MAX = Integer.MAX_VALUE;
    private static final int NO_MORE = -1000000000;

    public static void main(String[] args) {
        best();
        price();
        more();
        moreIsNotLessThanNothing();
        moreNone();
        blind();
        pays();
        about();
        count();
        image();
        imageAnew();
        again();
        imagesStay();
        askingChangesNothing();
        DUE.end();
    }

    private static void needAll(BoughtAhead x, int kind, int hour, int n) {
        for (int owner = 0; owner < 4; owner++) {
            x.need(owner, kind, hour, n);
        }
    }

    /** Two KINDS, three OFFERS, NEED and PLAN, and images 0 and 2 of earlier times. */
    private static void ordinary(BoughtAhead x) {
        x.hours(9);
        x.image(2);
        x.kind(10);
        x.kind(20);
        x.offer(0, 3, 20);
        x.offer(1, 2, 30);
        x.image(0);
        x.offer(0, 1, 9);
        x.needs(0, 0, 0, 0x12345678);
        x.needs(3, 1, 1, 0x87654321);
        x.buy(0, 0, 2);
        x.buy(1, 8, 3);
        x.buy(2, 8, 60);
    }

    /** Another number of HOURS, other OFFERS, NEED and PLAN. */
    private static void change(BoughtAhead x) {
        x.hours(3);
        x.hours(30);
        x.kind(30);
        x.offer(2, 40, 70);
        x.reprice(0, 1);
        x.need(1, 1, 29, 9);
        x.needs(0, 0, 0, 0x99999999);
        x.buy(1, 0, 44);
        x.blind(0);
    }

    private static void nothingChanges(String call, Consumer<BoughtAhead> one) {
        Consumer<BoughtAhead> calls = EdgesOfLaterPromisesTest::ordinary;
        DUE.yes(call + " changes nothing", Told.after(calls.andThen(one)).isAs(Told.after(calls)));
    }

    private static void best() {
        DUE.says("Promise 12: BEST of a KIND. -1: there is none such.");
        DUE.is("no KIND at all", new BoughtAhead().best(0), -1);
        BoughtAhead x = Made.withKind(40, 1000);
        DUE.is("nothing NEEDED, no OFFERS", x.best(0), 0);
        for (int hour = 0; hour < 40; hour++) {
            needAll(x, 0, hour, 9);
        }
        DUE.is("all that can be NEEDED", x.best(0), 40L * 36 * 1000);
        x.offer(0, 40, 39999);
        DUE.is("one less than by the hour", x.best(0), 36L * 39999);
        for (int kind : new int[] {-1, 1, 3, MIN, MAX}) {
            DUE.is("best(" + kind + ")", x.best(kind), -1);
        }
    }

    private static void price() {
        DUE.says("Promise 13: The PRICE of an HOUR of the PROOF of a KIND's BEST. NONE if there is none such.");
        DUE.is("no KIND at all", new BoughtAhead().price(0, 0), -1);
        BoughtAhead x = Made.withKind(3, 10);
        x.offer(0, 3, 15);
        DUE.is("the first HOUR", x.price(0, 0), 0);
        DUE.is("the last HOUR", x.price(0, 2), 10);
        for (int n : new int[] {-1, 3, 40, MIN, MAX}) {
            DUE.is("price(0, " + n + ")", x.price(0, n), -1);
            DUE.is("price(" + n + ", 0)", x.price(n, 0), -1);
        }
        DUE.is("price(1, 0)", x.price(1, 0), -1);
    }

    private static void more() {
        DUE.says("Promise 14: By how much BEST would be more if so many more machines of a KIND were NEEDED in an HOUR, -60 .. 60");
        BoughtAhead x = Made.withKind(3, 10);
        needAll(x, 0, 1, 9);
        DUE.is("none more", x.more(0, 1, 0), 0);
        DUE.is("one more", x.more(0, 1, 1), 10);
        DUE.is("60 more than all OWNERS may NEED", x.more(0, 1, 60), 600);
        DUE.is("60 in the last HOUR", x.more(0, 2, 60), 600);
        x.offer(0, 3, 15);
        DUE.is("of an OFFER that is there: none more", x.more(0, 1, 0), 0);
        DUE.is("36 are bought for HOUR 1 by the hour; one more in HOUR 0 makes one of them a promise", x.more(0, 0, 1), 5);
        DUE.is("36 of them", x.more(0, 0, 36), 36 * 5);
        DUE.is("37 of them: the last by the hour", x.more(0, 0, 37), 36 * 5 + 10);
        DUE.is("60 of them", x.more(0, 0, 60), 36 * 5 + 24 * 10);
    }

    private static void moreIsNotLessThanNothing() {
        DUE.says("Promise 14: (fewer: less; NEED is 0 at least then)");
        BoughtAhead x = Made.withKind(3, 10);
        x.need(1, 0, 0, 2);
        needAll(x, 0, 2, 9);
        int[][] due = {{0, -1, -10}, {0, -2, -20}, {0, -3, -20}, {0, -60, -20}, {1, -1, 0}, {1, -60, 0},
            {2, -35, -350}, {2, -36, -360}, {2, -37, -360}, {2, -60, -360}};
        for (int[] d : due) {
            DUE.is("more(0, " + d[0] + ", " + d[1] + ")", x.more(0, d[0], d[1]), d[2]);
        }
        x.offer(0, 3, 12);
        DUE.is("a promise is left", x.more(0, 0, -2), 2 * 10 - 2 * 12);
        DUE.is("one of two promises", x.more(0, 0, -1), 10 - 12);
        DUE.is("not less than nothing", x.more(0, 0, -60), 2 * 10 - 2 * 12);
        BoughtAhead y = Made.withKind(3, 4);
        y.offer(0, 2, 2);
        y.need(0, 0, 1, 1);
        y.need(0, 0, 2, 2);
        DUE.is("of two promises that end with the last HOUR one is NEEDED before it", y.best(0), 4);
        for (int n : new int[] {-1, -2, -3, -60}) {
            DUE.is("it stays: more(0, 2, " + n + ")", y.more(0, 2, n), -2);
        }
    }

    private static void moreNone() {
        DUE.says("Promise 14: -1000000000 if there is none such (of any).");
        DUE.is("no KIND at all", new BoughtAhead().more(0, 0, 0), NO_MORE);
        BoughtAhead x = Made.withKind(3, 10);
        for (int n : new int[] {-61, 61, MIN, MAX, MIN + 1}) {
            DUE.is("more(0, 0, " + n + ")", x.more(0, 0, n), NO_MORE);
        }
        for (int n : new int[] {-1, 3, 24, MIN, MAX}) {
            DUE.is("more(0, " + n + ", 1)", x.more(0, n, 1), NO_MORE);
            DUE.is("more(" + n + ", 0, 1)", x.more(n, 0, 1), NO_MORE);
        }
        DUE.is("more(1, 0, 1)", x.more(1, 0, 1), NO_MORE);
    }

    private static void blind() {
        DUE.says("Promise 15: it becomes the PLAN for its KIND, instead of what was there");
        BoughtAhead x = Made.withKind(40, 10);
        x.kind(20);
        x.offer(0, 3, 20);
        x.offer(1, 3, 20);
        x.offer(0, 3, 20);
        for (int offer = 0; offer < 3; offer++) {
            for (int hour : new int[] {0, 20, 39}) {
                x.buy(offer, hour, 60);
            }
        }
        x.need(2, 0, 19, 1);
        x.need(3, 0, 21, 1);
        DUE.is("blind(0)", x.blind(0), 20 + 10);
        DUE.is("bought by the rule", x.tell(0, 21, 20), 1);
        DUE.is("what was there of it", x.about(0, 3), 1);
        DUE.is("what was there of the KIND", x.about(2, 3), 0);
        DUE.is("of the other KIND", x.about(1, 3), 180);
        DUE.is("blind(0), again", x.blind(0), 30);
        DUE.is("as before", x.about(0, 3), 1);
        DUE.is("blind(2)", x.blind(2), 30);
        DUE.is("the one is not any more", x.about(0, 3), 0);
        DUE.is("the other is", x.tell(0, 21, 22), 1);
        x.need(2, 0, 19, 0);
        DUE.is("nothing is bought", x.blind(2), 10);
        DUE.is("what was there is not any more", x.about(2, 3), 0);
        DUE.is("NEED stays", x.about(0, 12), 1);

        DUE.says("Promise 15: -1: there is none such.");
        DUE.is("no OFFER at all", Made.withKind(3, 10).blind(0), -1);
        for (int offer : new int[] {-1, 3, 5, 6, MIN, MAX}) {
            DUE.is("blind(" + offer + ")", x.blind(offer), -1);
            nothingChanges("blind(" + offer + ")", y -> y.blind(offer));
        }
        DUE.is("of the other KIND", x.about(1, 3), 180);
    }

    private static void pays() {
        DUE.says("Promise 16: What an OWNER pays for a KIND by the PLAN. -1: there is none such.");
        DUE.is("no KIND at all", new BoughtAhead().pays(0, 0), -1);
        BoughtAhead x = Made.withKind(3, 10);
        for (int owner = 0; owner < 4; owner++) {
            DUE.is("nothing NEEDED: OWNER " + owner, x.pays(owner, 0), 0);
        }
        for (int owner : new int[] {-1, 4, MIN, MAX}) {
            DUE.is("pays(" + owner + ", 0)", x.pays(owner, 0), -1);
        }
        for (int kind : new int[] {-1, 1, 3, MIN, MAX}) {
            DUE.is("pays(0, " + kind + ")", x.pays(0, kind), -1);
            DUE.is("pays(3, " + kind + ")", x.pays(3, kind), -1);
        }
    }

    private static void about() {
        DUE.says("Promise 17: Of an OFFER, what 0: KIND, 1: TERM, 2: COST, 3: how many the PLAN buys in all");
        BoughtAhead x = Made.withKind(40, 7);
        x.kind(9);
        x.offer(1, 40, 100000);
        x.offer(0, 1, 0);
        DUE.is("KIND of 0", x.about(0, 0), 1);
        DUE.is("KIND of 1", x.about(1, 0), 0);
        DUE.is("TERM of 0", x.about(0, 1), 40);
        DUE.is("TERM of 1", x.about(1, 1), 1);
        DUE.is("COST of 0", x.about(0, 2), 100000);
        DUE.is("COST of 1", x.about(1, 2), 0);
        DUE.is("none is bought", x.about(0, 3), 0);
        for (int hour = 0; hour < 40; hour++) {
            x.buy(0, hour, 60);
        }
        DUE.is("all that can be bought", x.about(0, 3), 2400);
        DUE.is("of the other one", x.about(1, 3), 0);

        DUE.says("Promise 17: Of a KIND, what 10: RATE, 11: OFFERS, 12: NEED of all HOURS together, 13: the most in an HOUR");
        BoughtAhead y = Made.withKind(40, 1000);
        y.kind(1);
        DUE.is("RATE of 0", y.about(0, 10), 1000);
        DUE.is("RATE of 1", y.about(1, 10), 1);
        for (int what = 11; what < 14; what++) {
            DUE.is("none, what " + what, y.about(1, what), 0);
        }
        for (int offer = 0; offer < 6; offer++) {
            y.offer(1, 1, 1);
            DUE.is("OFFERS", y.about(1, 11), offer + 1);
        }
        y.need(2, 1, 39, 1);
        DUE.is("one in the last HOUR", y.about(1, 12), 1);
        DUE.is("the most", y.about(1, 13), 1);
        y.need(1, 1, 0, 2);
        DUE.is("two in the first HOUR", y.about(1, 12), 3);
        DUE.is("the most", y.about(1, 13), 2);
        y.need(3, 1, 0, 3);
        DUE.is("the most, of all OWNERS", y.about(1, 13), 5);
        for (int i = 0; i < 20; i++) {
            y.needs(i / 5, 1, i % 5 * 8, 0x99999999);
        }
        DUE.is("all that can be NEEDED", y.about(1, 12), 1440);
        DUE.is("the most", y.about(1, 13), 36);
        DUE.is("of the other KIND", y.about(0, 12) + y.about(0, 13) + y.about(0, 11), 0);

        DUE.says("Promise 17: NONE if there is none such, or for another what.");
        for (int what : new int[] {MIN, -1, 4, 9, 14, 20, MAX}) {
            for (int k = 0; k < 3; k++) {
                DUE.is("about(" + k + ", " + what + ")", y.about(k, what), -1);
            }
        }
        for (int what = 0; what < 4; what++) {
            DUE.no("the last OFFER, what " + what, y.about(5, what) == -1);
            DUE.no("the last KIND, what " + (10 + what), y.about(1, 10 + what) == -1);
            for (int k : new int[] {-1, 6, MIN, MAX}) {
                DUE.is("about(" + k + ", " + what + ")", y.about(k, what), -1);
                DUE.is("about(" + k + ", " + (10 + what) + ")", y.about(k, 10 + what), -1);
            }
            DUE.is("OFFER 5 is no KIND", y.about(5, 10 + what), -1);
            DUE.is("OFFER 2 is no KIND", y.about(2, 10 + what), -1);
            DUE.is("KIND 0 is no OFFER", Made.withKind(3, 10).about(0, what), -1);
        }
    }

    private static void count() {
        DUE.says("Promise 18: How many: 0 HOURS, 1 KINDS, 2 OFFERS. NONE for another what.");
        BoughtAhead x = new BoughtAhead();
        DUE.is("no KINDS", x.count(1), 0);
        DUE.is("no OFFERS", x.count(2), 0);
        x.hours(40);
        for (int i = 0; i < 9; i++) {
            x.kind(1);
            x.offer(0, 1, 1);
        }
        DUE.is("the most HOURS", x.count(0), 40);
        DUE.is("the most KINDS", x.count(1), 3);
        DUE.is("the most OFFERS", x.count(2), 6);
        for (int what : new int[] {-1, 3, 10, MIN, MAX}) {
            DUE.is("count(" + what + ")", x.count(what), -1);
        }
    }

    private static void image() {
        DUE.says("Promise 19: Image k (0 .. 2) is all that is told, as it is now: true; false for another k.");
        BoughtAhead x = new BoughtAhead();
        for (int k : new int[] {0, 2, 1}) {
            DUE.no("again(" + k + ")", x.again(k));
            DUE.yes("image(" + k + ")", x.image(k));
            DUE.yes("again(" + k + ")", x.again(k));
        }
        for (int k : new int[] {-1, 3, MIN, MAX}) {
            DUE.no("image(" + k + ")", x.image(k));
            nothingChanges("image(" + k + ")", y -> y.image(k));
        }
        for (int k = 0; k < 3; k++) {
            int image = k;
            Consumer<BoughtAhead> taken = y -> {
                ordinary(y);
                y.image(image);
            };
            Consumer<BoughtAhead> fetched = y -> {
                change(y);
                y.again(image);
            };
            DUE.yes("image(" + k + ") is all, as it was", Told.after(taken.andThen(fetched)).isAs(Told.after(taken)));
        }
    }

    private static void imageAnew() {
        DUE.says("Promise 19: as it is now");
        BoughtAhead x = Made.withKind(5, 10);
        x.need(0, 0, 4, 3);
        x.image(1);
        x.need(0, 0, 4, 4);
        x.hours(6);
        x.image(1);
        x.need(0, 0, 4, 5);
        x.hours(7);
        DUE.yes("again(1)", x.again(1));
        DUE.is("HOURS", x.count(0), 6);
        DUE.is("NEED", x.tell(0, 4, 0), 4);
        BoughtAhead empty = new BoughtAhead();
        empty.image(0);
        ordinary(empty);
        empty.image(1);
        DUE.yes("again to when there was nothing", empty.again(2));
        DUE.is("KINDS", empty.count(1), 0);
        DUE.is("OFFERS", empty.count(2), 0);
        DUE.is("the first KIND", empty.kind(5), 0);
        DUE.is("it NEEDS nothing", empty.about(0, 12), 0);
        DUE.is("the first OFFER", empty.offer(0, 3, 3), 0);
        DUE.is("nothing of it is bought", empty.about(0, 3), 0);
        empty.hours(40);
        DUE.is("nothing in HOURS that come", empty.about(0, 12), 0);
        DUE.is("no second KIND", empty.about(1, 10), -1);
    }

    private static void again() {
        DUE.says("Promise 20: All that is as image k has it [..] : true; false if there is none such.");
        BoughtAhead none = new BoughtAhead();
        for (int k : new int[] {0, 1, 2, -1, 3, MIN, MAX}) {
            DUE.no("no images: again(" + k + ")", none.again(k));
        }
        BoughtAhead one = new BoughtAhead();
        one.image(1);
        DUE.no("again(0)", one.again(0));
        DUE.yes("again(1)", one.again(1));
        DUE.no("again(2)", one.again(2));
        for (int k : new int[] {1, -1, 3, MIN, MAX}) {
            nothingChanges("again(" + k + ")", y -> y.again(k));
        }
        BoughtAhead x = Made.withKind(5, 10);
        x.offer(0, 2, 9);
        x.need(0, 0, 4, 3);
        x.buy(0, 4, 2);
        x.image(0);
        for (int i = 0; i < 3; i++) {
            x.need(0, 0, 4, 9);
            x.buy(0, 4, 60);
            x.reprice(0, 1);
            x.hours(4);
            DUE.yes("again(0)", x.again(0));
            DUE.is("HOURS", x.count(0), 5);
            DUE.is("NEED", x.tell(0, 4, 0), 3);
            DUE.is("PLAN", x.tell(0, 4, 20), 2);
            DUE.is("COST", x.about(0, 2), 9);
            DUE.is("BEST", x.best(0), 27);
        }
        x.kind(30);
        x.offer(1, 1, 1);
        DUE.yes("again(0), with fewer KINDS and OFFERS", x.again(0));
        DUE.is("KINDS", x.count(1), 1);
        DUE.is("OFFERS", x.count(2), 1);
        DUE.is("no KIND any more", x.cost(1), -1);
        DUE.no("no OFFER any more", x.buy(1, 0, 1));
        againUnderTheSameNumbers();
    }

    /** Image 1 is of a time with other KINDS and OFFERS under the same numbers. */
    private static void againUnderTheSameNumbers() {
        BoughtAhead x = new BoughtAhead();
        x.image(0);
        x.kind(5);
        x.kind(6);
        x.offer(1, 7, 8);
        x.image(1);
        x.again(0);
        x.kind(50);
        x.offer(0, 3, 80);
        DUE.yes("again(1)", x.again(1));
        DUE.is("RATE", x.about(0, 10), 5);
        DUE.is("KIND", x.about(0, 0), 1);
        DUE.is("TERM", x.about(0, 1), 7);
        DUE.is("COST", x.about(0, 2), 8);
    }

    private static void imagesStay() {
        DUE.says("Promise 20: (other images stay)");
        Consumer<BoughtAhead> three = x -> {
            ordinary(x);
            change(x);
            x.image(1);
            x.clear(0);
        };
        Told before = Told.after(three);
        for (int k = 0; k < 3; k++) {
            int image = k;
            DUE.yes("after again(" + k + ")", Told.after(three.andThen(x -> x.again(image))).hasImagesAs(before));
            Consumer<BoughtAhead> changed = three.andThen(x -> {
                x.again(image);
                x.hours(2);
                x.kind(9);
                x.need(2, 0, 1, 7);
                x.offer(0, 9, 9);
                x.reprice(0, 77);
                x.buy(0, 1, 33);
            });
            DUE.yes("after again(" + k + ") and changes", Told.after(changed).hasImagesAs(before));
        }
        BoughtAhead x = new BoughtAhead();
        for (int k = 0; k < 3; k++) {
            x.hours(10 + k);
            x.image(k);
        }
        x.again(0);
        x.image(1);
        for (int k : new int[] {2, 1, 0, 2}) {
            DUE.yes("again(" + k + ")", x.again(k));
            DUE.is("HOURS of image " + k, x.count(0), new int[] {10, 10, 12}[k]);
        }
    }

    private static void askingChangesNothing() {
        DUE.says("Nothing is promised beyond the answers and state changes described above");
        nothingChanges("tell", x -> x.tell(0, 1, 2));
        nothingChanges("cost", x -> x.cost(0));
        nothingChanges("best", x -> x.best(0));
        nothingChanges("price", x -> x.price(1, 8));
        nothingChanges("more", x -> x.more(0, 0, 60));
        nothingChanges("fewer", x -> x.more(1, 8, -60));
        nothingChanges("pays", x -> x.pays(0, 0));
        nothingChanges("about", x -> x.about(1, 12));
        nothingChanges("count", x -> x.count(0));
    }
}
