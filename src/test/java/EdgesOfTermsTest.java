/** The sentences of 'Terms' that name an edge, each with a test of its own, worked out by hand. */
public final class EdgesOfTermsTest {
    private static final Due DUE = new Due("EdgesOfTermsTest");

    public static void main(String[] args) {
        hours();
        kinds();
        offers();
        asManyHours();
        beyondTheLastHour();
        owners();
        plan();
        costOfPlan();
        DUE.end();
    }

    private static void ahead(String name, BoughtAhead x, int kind, int... row) {
        for (int hour = 0; hour < row.length; hour++) {
            DUE.is(name + ": AHEAD in HOUR " + hour, x.tell(kind, hour, 1), row[hour]);
        }
    }

    private static void hours() {
        DUE.says("h 1 .. 40 (24 at first)");
        BoughtAhead x = new BoughtAhead();
        DUE.is("count(0)", x.count(0), 24);
        DUE.no("hours(0)", x.hours(0));
        DUE.no("hours(41)", x.hours(41));
        DUE.is("count(0)", x.count(0), 24);
        DUE.yes("hours(1)", x.hours(1));
        DUE.is("count(0)", x.count(0), 1);
        DUE.yes("hours(40)", x.hours(40));
        DUE.is("count(0)", x.count(0), 40);

        DUE.says("HOURS are 0 .. h - 1");
        for (int h : new int[] {1, 2, 24, 39, 40}) {
            BoughtAhead y = Made.withKind(h, 10);
            y.offer(0, 1, 5);
            for (int hour : new int[] {0, h - 1}) {
                DUE.yes("of " + h + ": need in " + hour, y.need(0, 0, hour, 1));
                DUE.yes("of " + h + ": buy in " + hour, y.buy(0, hour, 1));
                DUE.is("of " + h + ": tell of " + hour, y.tell(0, hour, 0), 1);
                DUE.is("of " + h + ": price of " + hour, y.price(0, hour), 5);
                DUE.is("of " + h + ": more in " + hour, y.more(0, hour, 1), 5);
            }
            for (int hour : new int[] {-1, h}) {
                DUE.no("of " + h + ": need in " + hour, y.need(0, 0, hour, 1));
                DUE.no("of " + h + ": buy in " + hour, y.buy(0, hour, 1));
                DUE.is("of " + h + ": tell of " + hour, y.tell(0, hour, 0), -1);
                DUE.is("of " + h + ": price of " + hour, y.price(0, hour), -1);
                DUE.is("of " + h + ": more in " + hour, y.more(0, hour, 1), -1000000000);
            }
            DUE.is("of " + h + ": NEED of all HOURS", y.about(0, 12), h == 1 ? 1 : 2);
        }
    }

    private static void kinds() {
        DUE.says("KINDS of machines, at most 3, from 0 on");
        BoughtAhead x = new BoughtAhead();
        for (int i = 0; i < 3; i++) {
            DUE.is("KINDS", x.count(1), i);
            DUE.is("cost of the next KIND", x.cost(i), -1);
            DUE.is("kind(5)", x.kind(5), i);
            DUE.is("cost of it", x.cost(i), 0);
        }
        DUE.is("a fourth", x.kind(5), -1);
        DUE.is("KINDS", x.count(1), 3);
        DUE.is("cost(3)", x.cost(3), -1);

        DUE.says("have a RATE, 1 .. 1000, for an hour");
        BoughtAhead y = new BoughtAhead();
        DUE.is("kind(0)", y.kind(0), -1);
        DUE.is("kind(1001)", y.kind(1001), -1);
        DUE.is("kind(1)", y.kind(1), 0);
        DUE.is("kind(1000)", y.kind(1000), 1);
        y.need(0, 0, 5, 1);
        y.need(0, 1, 5, 1);
        DUE.is("an hour of 0", y.cost(0), 1);
        DUE.is("an hour of 1", y.cost(1), 1000);
    }

    private static void offers() {
        DUE.says("OFFERS, at most 6, from 0 on, are of a KIND");
        BoughtAhead x = Made.withKind(24, 10);
        x.kind(20);
        x.kind(30);
        for (int i = 0; i < 6; i++) {
            DUE.is("OFFERS", x.count(2), i);
            DUE.is("KIND of the next OFFER", x.about(i, 0), -1);
            DUE.is("an OFFER of " + i % 3, x.offer(i % 3, 1, 1), i);
            DUE.is("its KIND", x.about(i, 0), i % 3);
        }
        for (int kind = 0; kind < 3; kind++) {
            DUE.is("a seventh, of KIND " + kind, x.offer(kind, 1, 1), -1);
            DUE.is("OFFERS of KIND " + kind, x.about(kind, 11), 2);
        }
        BoughtAhead one = Made.withKind(24, 10);
        for (int i = 0; i < 6; i++) {
            DUE.is("all of one KIND", one.offer(0, 1, 1), i);
        }
        DUE.is("a seventh", one.offer(0, 1, 1), -1);
        DUE.is("OFFERS", one.about(0, 11), 6);

        DUE.says("have a TERM, 1 .. 40");
        BoughtAhead y = Made.withKind(2, 10);
        DUE.is("TERM 0", y.offer(0, 0, 5), -1);
        DUE.is("TERM 41", y.offer(0, 41, 5), -1);
        DUE.is("TERM 1", y.offer(0, 1, 5), 0);
        DUE.is("TERM 40, of 2 HOURS", y.offer(0, 40, 5), 1);
        DUE.is("TERM of 0", y.about(0, 1), 1);
        DUE.is("TERM of 1", y.about(1, 1), 40);

        DUE.says("and a COST, 0 .. 100000");
        BoughtAhead z = Made.withKind(2, 10);
        DUE.is("COST -1", z.offer(0, 1, -1), -1);
        DUE.is("COST 100001", z.offer(0, 1, 100001), -1);
        DUE.is("COST 0", z.offer(0, 1, 0), 0);
        DUE.is("COST 100000", z.offer(0, 1, 100000), 1);
        DUE.is("COST of 0", z.about(0, 2), 0);
        DUE.is("COST of 1", z.about(1, 2), 100000);
    }

    private static void asManyHours() {
        DUE.says("one bought at an hour is a machine of that KIND from then on for as many hours");
        BoughtAhead x = Made.withKind(6, 10);
        x.kind(20);
        x.offer(0, 3, 20);
        x.offer(0, 1, 5);
        x.offer(0, 2, 5);
        x.buy(0, 1, 1);
        ahead("TERM 3", x, 0, 0, 1, 1, 1, 0, 0);
        x.buy(1, 3, 2);
        ahead("and TERM 1", x, 0, 0, 1, 1, 3, 0, 0);
        x.buy(2, 0, 10);
        x.buy(2, 1, 20);
        ahead("and TERM 2, twice", x, 0, 10, 31, 21, 3, 0, 0);
        ahead("the other KIND", x, 1, 0, 0, 0, 0, 0, 0);
        BoughtAhead y = Made.withKind(40, 10);
        y.offer(0, 40, 1);
        y.offer(0, 39, 1);
        y.buy(0, 0, 1);
        y.buy(1, 0, 10);
        DUE.is("AHEAD in 38", y.tell(0, 38, 1), 11);
        DUE.is("AHEAD in 39", y.tell(0, 39, 1), 1);
    }

    private static void beyondTheLastHour() {
        DUE.says("beyond the last one they count for nothing");
        BoughtAhead x = Made.withKind(6, 10);
        x.offer(0, 3, 20);
        x.buy(0, 5, 1);
        ahead("at the last HOUR", x, 0, 0, 0, 0, 0, 0, 1);
        x.need(0, 0, 0, 1);
        x.need(0, 0, 1, 1);
        DUE.is("what is NEEDED first is not AHEAD", x.cost(0), 20 + 2 * 10);
        BoughtAhead y = Made.withKind(40, 10);
        y.kind(20);
        for (int offer = 0; offer < 6; offer++) {
            y.offer(offer % 2, 40, 1);
        }
        y.buy(0, 39, 7);
        for (int hour = 0; hour < 39; hour++) {
            DUE.is("AHEAD in HOUR " + hour, y.tell(0, hour, 1), 0);
            DUE.is("AHEAD of the other KIND", y.tell(1, hour, 1), 0);
        }
        DUE.is("AHEAD in the last HOUR", y.tell(0, 39, 1), 7);

        DUE.says("it costs as much");
        BoughtAhead z = Made.withKind(6, 10);
        z.offer(0, 3, 9);
        z.buy(0, 5, 1);
        DUE.is("cost", z.cost(0), 9);
        z.buy(0, 3, 1);
        DUE.is("cost with a whole one", z.cost(0), 18);
        z.need(0, 0, 5, 1);
        DUE.is("BEST: one for the last HOUR alone", z.best(0), 9);
        DUE.is("BLIND: at the last HOUR", z.blind(0), 9);
        DUE.is("bought there", z.tell(0, 5, 20), 1);
        DUE.is("OWNER 0 pays all of it", z.pays(0, 0), 9);
    }

    private static void owners() {
        DUE.says("OWNERS 0 .. 3");
        BoughtAhead x = Made.withKind(3, 10);
        for (int owner = 0; owner < 4; owner++) {
            DUE.yes("need of " + owner, x.need(owner, 0, 0, owner + 1));
            DUE.is("pays of " + owner, x.pays(owner, 0), 10 * (owner + 1));
            DUE.is("tell of " + owner, x.tell(0, 0, 10 + owner), owner + 1);
        }
        for (int owner : new int[] {-1, 4}) {
            DUE.no("need of " + owner, x.need(owner, 0, 0, 1));
            DUE.is("pays of " + owner, x.pays(owner, 0), -1);
            DUE.is("tell of " + owner, x.tell(0, 0, 10 + owner), -1);
        }

        DUE.says("NEED machines of a KIND in an HOUR, 0 .. 9 each (0 at first)");
        BoughtAhead y = Made.withKind(40, 10);
        for (int hour = 0; hour < 40; hour++) {
            for (int owner = 0; owner < 4; owner++) {
                DUE.is("at first, OWNER " + owner + " in " + hour, y.tell(0, hour, 10 + owner), 0);
            }
        }
        DUE.no("-1", y.need(1, 0, 3, -1));
        DUE.no("10", y.need(1, 0, 3, 10));
        DUE.is("NEED", y.tell(0, 3, 11), 0);
        DUE.yes("9", y.need(1, 0, 3, 9));
        DUE.is("NEED", y.tell(0, 3, 11), 9);
        DUE.yes("0", y.need(1, 0, 3, 0));
        DUE.is("NEED", y.tell(0, 3, 11), 0);

        DUE.says("NEED of all: these together");
        BoughtAhead z = Made.withKind(3, 10);
        for (int owner = 0; owner < 4; owner++) {
            z.need(owner, 0, 2, 9);
            DUE.is("NEED of all", z.tell(0, 2, 0), 9 * (owner + 1));
            DUE.is("the most in an HOUR", z.about(0, 13), 9 * (owner + 1));
        }
        z.need(1, 0, 2, 0);
        DUE.is("without one OWNER", z.tell(0, 2, 0), 27);
        DUE.is("in another HOUR", z.tell(0, 1, 0), 0);
    }

    private static void plan() {
        DUE.says("how many of each OFFER are bought at each HOUR, 0 .. 60 (0 at first)");
        BoughtAhead x = Made.withKind(40, 10);
        x.offer(0, 1, 1);
        x.offer(0, 1, 1);
        for (int hour = 0; hour < 40; hour++) {
            DUE.is("at first", x.tell(0, hour, 20), 0);
            DUE.is("at first", x.tell(0, hour, 21), 0);
        }
        DUE.no("-1", x.buy(0, 7, -1));
        DUE.no("61", x.buy(0, 7, 61));
        DUE.is("bought", x.tell(0, 7, 20), 0);
        DUE.yes("60", x.buy(0, 7, 60));
        DUE.yes("60 of another OFFER too", x.buy(1, 7, 60));
        DUE.yes("60 at another HOUR too", x.buy(0, 8, 60));
        DUE.is("bought", x.tell(0, 7, 20), 60);
        DUE.is("in all", x.about(0, 3), 120);
        DUE.yes("0", x.buy(0, 7, 0));
        DUE.is("bought", x.tell(0, 7, 20), 0);
        DUE.is("in all", x.about(0, 3), 60);
        DUE.is("of the other OFFER", x.tell(0, 7, 21), 60);

        DUE.says("AHEAD of a KIND in an HOUR: how many machines of it are there by the PLAN");
        BoughtAhead y = Made.withKind(3, 10);
        y.kind(20);
        y.offer(0, 3, 1);
        y.offer(0, 2, 1);
        y.offer(1, 3, 1);
        for (int hour = 0; hour < 3; hour++) {
            y.buy(0, hour, 60);
            y.buy(1, hour, 50);
            y.buy(2, hour, 1);
        }
        ahead("beyond 60 and beyond NEED", y, 0, 110, 220, 280);
        ahead("of the other KIND", y, 1, 1, 2, 3);
    }

    private static void costOfPlan() {
        DUE.says("COST of a PLAN for a KIND: what its OFFERS cost, and its RATE for each machine that is NEEDED (by all) in an HOUR and not AHEAD");
        BoughtAhead x = Made.withKind(2, 10);
        DUE.is("nothing NEEDED, nothing bought", x.cost(0), 0);
        x.offer(0, 1, 3);
        x.need(0, 0, 0, 1);
        x.need(3, 0, 0, 1);
        x.need(2, 0, 1, 2);
        DUE.is("nothing bought", x.cost(0), 40);
        x.buy(0, 0, 1);
        DUE.is("one too few", x.cost(0), 3 + 30);
        x.buy(0, 0, 2);
        DUE.is("just as many", x.cost(0), 6 + 20);
        x.buy(0, 0, 3);
        DUE.is("one too many saves nothing, in the next HOUR neither", x.cost(0), 9 + 20);
        x.need(0, 0, 0, 0);
        x.need(3, 0, 0, 0);
        x.need(2, 0, 1, 0);
        DUE.is("nothing NEEDED, it costs as much", x.cost(0), 9);
        x.reprice(0, 0);
        DUE.is("free", x.cost(0), 0);
    }
}
