/** Promises 6 to 11: NEED, the PLAN, what is told of them, and what the PLAN costs. */
public final class NeedAndPlanTest {
    private static final Due DUE = new Due("NeedAndPlanTest");
    private static final int MIN = Integer.MIN_VALUE;
    private static final int MAX = Integer.MAX_VALUE;

    public static void main(String[] args) {
        need();
        needs();
        needsRefused();
        buy();
        clear();
        tell();
        tellNone();
        cost();
        dearest();
        fortyHours();
        DUE.end();
    }

    private static void need() {
        BoughtAhead x = Made.withKind(10, 5);
        DUE.yes("need 9", x.need(0, 0, 0, 9));
        DUE.yes("need 9", x.need(3, 0, 0, 9));
        DUE.yes("need in the last hour", x.need(2, 0, 9, 1));
        int[][] wrong = {
            {-1, 0, 0, 1}, {4, 0, 0, 1}, {0, 1, 0, 1}, {0, -1, 0, 1}, {0, 0, -1, 1}, {0, 0, 10, 1}, {0, 0, 0, -1},
            {0, 0, 0, 10}, {MIN, 0, 0, 1}, {0, MAX, 0, 1}, {0, 0, MAX, 1}, {0, 0, MIN, 1}, {0, 0, 0, MAX},
        };
        for (int[] w : wrong) {
            DUE.no("need(" + w[0] + ", " + w[1] + ", " + w[2] + ", " + w[3] + ")", x.need(w[0], w[1], w[2], w[3]));
        }
        DUE.is("NEED of all", x.tell(0, 0, 0), 18);
        DUE.is("NEED of 0", x.tell(0, 0, 10), 9);
        DUE.is("NEED of 1", x.tell(0, 0, 11), 0);
        DUE.is("NEED of 3", x.tell(0, 0, 13), 9);
        DUE.yes("another NEED", x.need(0, 0, 0, 2));
        DUE.is("it is set, not added", x.tell(0, 0, 10), 2);
        DUE.yes("NEED 0", x.need(0, 0, 0, 0));
        DUE.is("NEED of all", x.tell(0, 0, 0), 9);
        DUE.is("NEED in all", x.about(0, 12), 10);
    }

    private static void needs() {
        BoughtAhead x = Made.withKind(10, 5);
        x.kind(6);
        DUE.yes("needs", x.needs(1, 1, 2, 0x12345678));
        for (int i = 0; i < 8; i++) {
            DUE.is("NEED of hour " + (2 + i), x.tell(1, 2 + i, 11), i + 1);
            DUE.is("of the other KIND", x.tell(0, 2 + i, 0), 0);
        }
        DUE.is("before it", x.tell(1, 1, 0), 0);
        DUE.yes("the highest half byte may be 9", x.needs(1, 1, 0, 0x90000009));
        DUE.is("hour 0", x.tell(1, 0, 11), 9);
        DUE.is("hour 1", x.tell(1, 1, 11), 0);
        DUE.is("hour 7", x.tell(1, 7, 11), 9);
        DUE.is("hour 8 is as it was", x.tell(1, 8, 11), 7);
        x.hours(8);
        DUE.yes("eight of eight HOURS", x.needs(0, 0, 0, 0x99999999));
        DUE.is("the most", x.about(0, 13), 9);
        DUE.is("all", x.about(0, 12), 72);
        x.hours(7);
        DUE.no("eight of seven HOURS", x.needs(0, 0, 0, 0));
        DUE.is("all", x.about(0, 12), 63);
    }

    private static void needsRefused() {
        BoughtAhead x = Made.withKind(10, 5);
        x.needs(0, 0, 0, 0x11111111);
        int[][] wrong = {
            {0, 0, 3, 0x22222222}, {0, 0, -1, 0x22222222}, {0, 0, 10, 0}, {0, 0, MAX, 0}, {0, 0, MIN, 0},
            {0, 0, MAX - 6, 0x22222222}, {-1, 0, 0, 0}, {4, 0, 0, 0}, {0, 1, 0, 0}, {0, -1, 0, 0},
            {0, 0, 0, 0xA2222222}, {0, 0, 0, 0x2222222A}, {0, 0, 0, 0x222F2222}, {0, 0, 0, -1},
        };
        for (int[] w : wrong) {
            DUE.no("needs(" + w[0] + ", " + w[1] + ", " + w[2] + ", " + w[3] + ")", x.needs(w[0], w[1], w[2], w[3]));
            for (int hour = 0; hour < 10; hour++) {
                DUE.is("nothing changes in hour " + hour, x.tell(0, hour, 10), hour < 8 ? 1 : 0);
            }
        }
    }

    private static void buy() {
        BoughtAhead x = Made.withKind(10, 5);
        DUE.no("no OFFER", x.buy(0, 0, 1));
        x.offer(0, 3, 12);
        DUE.yes("buy 60", x.buy(0, 0, 60));
        DUE.yes("buy at the last hour", x.buy(0, 9, 1));
        int[][] wrong = {
            {1, 0, 1}, {-1, 0, 1}, {6, 0, 1}, {0, 10, 1}, {0, -1, 1}, {0, 0, -1}, {0, 0, 61},
            {MIN, 0, 1}, {MAX, 0, 1}, {0, MIN, 1}, {0, MAX, 1}, {0, 0, MIN}, {0, 0, MAX},
        };
        for (int[] w : wrong) {
            DUE.no("buy(" + w[0] + ", " + w[1] + ", " + w[2] + ")", x.buy(w[0], w[1], w[2]));
        }
        DUE.is("bought at 0", x.tell(0, 0, 20), 60);
        DUE.is("bought at 9", x.tell(0, 9, 20), 1);
        DUE.yes("buy 4 instead", x.buy(0, 0, 4));
        DUE.is("it is set, not added", x.tell(0, 0, 20), 4);
        DUE.yes("buy 0", x.buy(0, 0, 0));
        DUE.is("in all", x.about(0, 3), 1);
    }

    private static void clear() {
        BoughtAhead x = Made.withKind(10, 5);
        x.kind(6);
        x.offer(0, 3, 12);
        x.offer(1, 3, 12);
        x.offer(0, 4, 12);
        for (int offer = 0; offer < 3; offer++) {
            x.buy(offer, 0, 3);
            x.buy(offer, 9, 4);
        }
        x.need(0, 0, 0, 2);
        DUE.no("clear(2)", x.clear(2));
        DUE.no("clear(-1)", x.clear(-1));
        DUE.no("clear(MAX)", x.clear(MAX));
        DUE.is("nothing is cleared", x.about(0, 3), 7);
        DUE.yes("clear(0)", x.clear(0));
        DUE.is("OFFER 0", x.about(0, 3), 0);
        DUE.is("OFFER 1 is of another KIND", x.about(1, 3), 7);
        DUE.is("OFFER 2", x.about(2, 3), 0);
        DUE.is("NEED stays", x.tell(0, 0, 0), 2);
        DUE.is("OFFERS stay", x.count(2), 3);
        DUE.yes("clear again", x.clear(0));
    }

    private static void tell() {
        BoughtAhead x = Made.withKind(6, 5);
        x.kind(6);
        x.offer(0, 3, 12);
        x.offer(0, 2, 9);
        x.offer(1, 40, 9);
        int[] need = {4, 4, 1, 0, 9, 0};
        for (int hour = 0; hour < 6; hour++) {
            x.need(hour % 4, 0, hour, need[hour]);
        }
        x.buy(0, 0, 2);
        x.buy(0, 4, 3);
        x.buy(1, 1, 4);
        x.buy(2, 0, 50);
        int[] ahead = {2, 6, 6, 0, 3, 3};
        for (int hour = 0; hour < 6; hour++) {
            DUE.is("NEED of hour " + hour, x.tell(0, hour, 0), need[hour]);
            DUE.is("AHEAD of hour " + hour, x.tell(0, hour, 1), ahead[hour]);
            DUE.is("NEEDED and not AHEAD in " + hour, x.tell(0, hour, 2), Math.max(0, need[hour] - ahead[hour]));
            DUE.is("AHEAD and not NEEDED in " + hour, x.tell(0, hour, 3), Math.max(0, ahead[hour] - need[hour]));
            for (int owner = 0; owner < 4; owner++) {
                DUE.is("NEED of OWNER", x.tell(0, hour, 10 + owner), owner == hour % 4 ? need[hour] : 0);
            }
            DUE.is("a long TERM", x.tell(1, hour, 1), 50);
        }
        DUE.is("OFFER 0 at 0", x.tell(0, 0, 20), 2);
        DUE.is("OFFER 0 at 1", x.tell(0, 1, 20), 0);
        DUE.is("OFFER 1 at 1", x.tell(0, 1, 21), 4);
        DUE.is("OFFER 2 at 0", x.tell(1, 0, 22), 50);
    }

    private static void tellNone() {
        BoughtAhead x = Made.withKind(6, 5);
        x.kind(6);
        x.offer(0, 3, 12);
        x.offer(1, 3, 12);
        x.buy(0, 0, 2);
        x.buy(1, 0, 3);
        for (int what : new int[] {0, 1, 2, 3, 10, 13, 20}) {
            DUE.is("no KIND", x.tell(2, 0, what), -1);
            DUE.is("no KIND", x.tell(-1, 0, what), -1);
            DUE.is("no HOUR", x.tell(0, 6, what), -1);
            DUE.is("no HOUR", x.tell(0, -1, what), -1);
            DUE.is("no HOUR", x.tell(0, MAX, what), -1);
        }
        for (int what : new int[] {-1, 4, 9, 14, 19, 22, 25, 26, 100, MIN, MAX}) {
            DUE.is("tell(0, 0, " + what + ")", x.tell(0, 0, what), -1);
        }
        DUE.is("an OFFER of another KIND", x.tell(0, 0, 21), -1);
        DUE.is("an OFFER of another KIND", x.tell(1, 0, 20), -1);
        DUE.is("an OFFER of the KIND", x.tell(1, 0, 21), 3);
    }

    private static void cost() {
        BoughtAhead x = Made.withKind(6, 5);
        DUE.is("nothing", x.cost(0), 0);
        x.offer(0, 3, 12);
        x.offer(0, 2, 9);
        for (int hour = 0; hour < 6; hour++) {
            x.need(hour % 4, 0, hour, 2);
        }
        DUE.is("all by the hour", x.cost(0), 6 * 2 * 5);
        x.buy(0, 1, 1);
        DUE.is("three less by the hour", x.cost(0), 12 + 9 * 5);
        x.buy(0, 5, 1);
        DUE.is("cut short, it costs as much", x.cost(0), 24 + 8 * 5);
        x.buy(1, 1, 5);
        DUE.is("too many save no more than is NEEDED", x.cost(0), 24 + 45 + (12 - 4 - 2) * 5);
        DUE.is("no KIND", x.cost(1), -1);
        DUE.is("no KIND", x.cost(-1), -1);
        DUE.is("no KIND", x.cost(MIN), -1);
        x.kind(8);
        DUE.is("the other KIND", x.cost(1), 0);
    }

    private static void dearest() {
        BoughtAhead x = Made.withKind(40, 1000);
        for (int offer = 0; offer < 6; offer++) {
            x.offer(0, 40, 100000);
            for (int hour = 0; hour < 40; hour++) {
                x.buy(offer, hour, 60);
            }
        }
        DUE.is("all that can be bought", x.cost(0), 6L * 40 * 60 * 100000);
        DUE.is("AHEAD in the last hour", x.tell(0, 39, 1), 6 * 40 * 60);
        DUE.is("OWNER 0 pays it", x.pays(0, 0), 6L * 40 * 60 * 100000);
        x.need(2, 0, 7, 1);
        DUE.is("OWNER 2 pays it", x.pays(2, 0), 6L * 40 * 60 * 100000);
    }

    /** The last of 40 HOURS is next to nobody else's first one. */
    private static void fortyHours() {
        BoughtAhead x = Made.withKind(40, 10);
        x.kind(20);
        x.kind(30);
        for (int offer = 0; offer < 6; offer++) {
            x.offer(offer % 3, 40, 50);
            x.buy(offer, 0, offer + 1);
        }
        for (int owner = 0; owner < 4; owner++) {
            for (int kind = 0; kind < 3; kind++) {
                x.need(owner, kind, 0, owner + kind);
                x.need(owner, kind, 39, 3);
            }
        }
        for (int kind = 0; kind < 3; kind++) {
            DUE.is("NEED in all", x.about(kind, 12), 6 + 4 * kind + 12);
            DUE.is("the most", x.about(kind, 13), Math.max(12, 6 + 4 * kind));
            DUE.is("AHEAD", x.tell(kind, 39, 1), 2 * kind + 5);
            DUE.is("bought of the first", x.about(kind, 3), kind + 1);
            DUE.is("bought of the second", x.about(kind + 3, 3), kind + 4);
        }
        DUE.yes("clear(2)", x.clear(2));
        DUE.is("AHEAD", x.tell(2, 39, 1), 0);
        DUE.is("of the others", x.tell(1, 39, 1), 7);
    }
}
