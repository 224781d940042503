import java.util.List;
import java.util.Random;
import java.util.function.ToLongFunction;

/** The sentences of the document that name no edge, from its first line on, each with a test of its own. */
public final class OtherSentencesTest {
    private static final Due DUE = new Due("OtherSentencesTest");

    public static void main(String[] args) {
        byTheHourOrLess();
        provedByPrices();
        oneMoreOrLess();
        noHourAhead();
        ownersShare();
        calls512();
        eachOfferAtEachHour();
        proof();
        theSameRow();
        blind();
        shares();
        none();
        numbers();
        objectsApart();
        DUE.end();
    }

    /** As large as may be: 40 HOURS, six OFFERS of KIND 0 about as dear as by the hour or less, four OWNERS. */
    private static BoughtAhead large(Random random) {
        BoughtAhead x = new BoughtAhead();
        x.hours(40);
        int rate = 1 + random.nextInt(1000);
        x.kind(rate);
        for (int offer = 0; offer < 6; offer++) {
            int term = 1 + random.nextInt(offer < 3 ? 8 : 40);
            x.offer(0, term, Math.min(100000, 1 + random.nextInt(term * rate)));
        }
        for (int i = 0; i < 20; i++) {
            int eight = 0;
            for (int half = 0; half < 8; half++) {
                eight = eight << 4 | random.nextInt(1 + i / 2);
            }
            x.needs(i % 4, 0, i / 4 * 8, eight);
        }
        return x;
    }

    private static void rows(String name, BoughtAhead x, int... prices) {
        for (int hour = 0; hour < prices.length; hour++) {
            DUE.is(name + ": price of " + hour, x.price(0, hour), prices[hour]);
        }
    }

    private static void byTheHourOrLess() {
        DUE.says("Machine hours bought ahead: machines that cost by the hour, or less if they are promised for many hours");
        BoughtAhead x = Made.withNeed(10, 3, 20, 1, 1, 1);
        DUE.is("by the hour", x.cost(0), 30);
        x.buy(0, 0, 1);
        DUE.is("promised for three hours", x.cost(0), 20);

        DUE.says("how many are needed hour by hour; what a plan of promises costs");
        BoughtAhead y = Made.withNeed(10, 3, 25, new int[8]);
        y.needs(1, 0, 0, 0x01234567);
        y.needs(2, 0, 0, 0x10000001);
        int[] need = {1, 1, 2, 3, 4, 5, 6, 8};
        for (int hour = 0; hour < 8; hour++) {
            DUE.is("NEED of HOUR " + hour, y.tell(0, hour, 0), need[hour]);
        }
        DUE.is("no promises", y.cost(0), 300);
        y.buy(0, 5, 2);
        DUE.is("two for HOURS 5 to 7", y.cost(0), 2 * 25 + 300 - 60);
        y.buy(0, 0, 1);
        DUE.is("and one for HOURS 0 to 2", y.cost(0), 3 * 25 + 300 - 60 - 30);
    }

    private static void provedByPrices() {
        DUE.says("what the best plan costs, proved by a price of each hour");
        for (int seed = 0; seed < 40; seed++) {
            BoughtAhead x = large(new Random(seed));
            long best = x.best(0);
            DUE.yes("run " + seed + ": the PLAN that buys nothing costs no less", x.cost(0) >= best);
            long sum = 0;
            int[] until = new int[41];
            for (int hour = 0; hour < 40; hour++) {
                int price = x.price(0, hour);
                DUE.yes("run " + seed + ": a PRICE is 0 .. RATE", price >= 0 && price <= x.about(0, 10));
                sum += (long) price * x.tell(0, hour, 0);
                until[hour + 1] = until[hour] + price;
            }
            DUE.is("run " + seed + ": NEED times PRICE", sum, best);
            for (int offer = 0; offer < 6; offer++) {
                int term = x.about(offer, 1);
                int cost = x.about(offer, 2);
                for (int hour = 0; hour < 40; hour++) {
                    int together = until[Math.min(40, hour + term)] - until[hour];
                    DUE.yes("run " + seed + ": OFFER " + offer + " at " + hour, together <= cost);
                }
                DUE.yes("run " + seed + ": what the rule buys costs no less", x.blind(offer) >= best);
            }
        }
    }

    private static void oneMoreOrLess() {
        DUE.says("what one machine more or less would change");
        for (int seed = 0; seed < 20; seed++) {
            BoughtAhead x = large(new Random(seed));
            long best = x.best(0);
            for (int hour = 0; hour < 40; hour += 3) {
                int need = x.tell(0, hour, 13);
                int step = need > 0 && hour % 2 == 0 || need == 9 ? -1 : 1;
                int more = x.more(0, hour, step);
                x.need(3, 0, hour, need + step);
                DUE.is("run " + seed + ": " + step + " in HOUR " + hour, more, x.best(0) - best);
                x.need(3, 0, hour, need);
            }
        }
    }

    private static void noHourAhead() {
        DUE.says("promises bought by a rule that sees no hour ahead");
        int[] need = {2, 3, 0, 1, 4, 4, 1, 2};
        for (int term = 1; term <= 5; term++) {
            BoughtAhead all = Made.withNeed(10, term, 10 * term - 5, need);
            all.blind(0);
            for (int known = 1; known <= 8; known++) {
                BoughtAhead x = Made.withNeed(10, term, 10 * term - 5, java.util.Arrays.copyOf(need, known));
                x.blind(0);
                for (int hour = 0; hour < known; hour++) {
                    String name = "TERM " + term + ", " + known + " HOURS: bought at " + hour;
                    DUE.is(name, x.tell(0, hour, 20), all.tell(0, hour, 20));
                }
            }
        }
    }

    private static void ownersShare() {
        DUE.says("; owners who share, and what each pays.");
        BoughtAhead x = Made.withNeed(10, 2, 15, 2, 0);
        x.need(1, 0, 1, 2);
        x.buy(0, 0, 1);
        // each has the machine for one HOUR: 7 and 8, and NEEDS one beside
        DUE.is("OWNER 0", x.pays(0, 0), 8 + 10);
        DUE.is("OWNER 1", x.pays(1, 0), 7 + 10);
        for (int seed = 0; seed < 20; seed++) {
            BoughtAhead y = large(new Random(seed));
            for (int offer = 0; offer < 6; offer++) {
                long cost = y.blind(offer);
                long sum = 0;
                for (int owner = 0; owner < 4; owner++) {
                    sum += y.pays(owner, 0);
                }
                DUE.is("run " + seed + ": together they pay what it costs", sum, cost);
            }
        }
    }

    private static void calls512() {
        DUE.says("An object is used for at most 512 calls after it has been made");
        List<ToLongFunction<BoughtAhead>> last = List.of(
                x -> x.hours(40) ? 1 : 0, x -> x.kind(7), x -> x.offer(0, 1, 1), x -> x.reprice(0, 5) ? 1 : 0,
                x -> x.need(3, 0, 2, 9) ? 1 : 0, x -> x.needs(0, 0, 0, 0) ? 1 : 0, x -> x.buy(0, 2, 60) ? 1 : 0,
                x -> x.clear(0) ? 1 : 0, x -> x.tell(0, 2, 10), x -> x.cost(0), x -> x.best(0),
                x -> x.price(0, 1), x -> x.more(0, 0, 2), x -> x.blind(0), x -> x.pays(0, 0),
                x -> x.about(0, 2), x -> x.count(0), x -> x.image(2) ? 1 : 0, x -> x.again(0) ? 1 : 0);
        long[] due = {1, 1, 1, 1, 1, 0, 1, 1, 1, 30, 20, 10, 20, 30, 30, 20, 3, 1, 1};
        for (int i = 0; i < due.length; i++) {
            BoughtAhead x = Made.withNeed(10, 3, 20, 1, 1, 1); // six calls
            for (int five = 0; five < 101; five++) {
                x.image(0);
                x.need(1, 0, 1, 9);
                x.best(0);
                x.blind(0);
                x.again(0);
            }
            DUE.is("the 512th call, " + i, last.get(i).applyAsLong(x), due[i]);
        }
    }

    private static void eachOfferAtEachHour() {
        DUE.says("A PLAN: how many of each OFFER are bought at each HOUR");
        BoughtAhead x = Made.withNeed(10, 3, 20, new int[8]);
        for (int offer = 1; offer < 6; offer++) {
            x.offer(0, 3, 20);
        }
        for (int i = 0; i < 48; i++) {
            x.buy(i / 8, i % 8, i + 1);
        }
        for (int i = 0; i < 48; i++) {
            DUE.is("OFFER " + i / 8 + " at " + i % 8, x.tell(0, i % 8, 20 + i / 8), i + 1);
        }
    }

    private static void proof() {
        DUE.says("PRICES of HOURS, whole numbers, 0 .. RATE each, are PROOF of the BEST if for each OFFER of the KIND and each HOUR at which it may be bought");
        BoughtAhead x = Made.withNeed(10, 1, 6, 1, 1);
        rows("an HOUR is 6 at most", x, 6, 6);
        x.offer(0, 2, 9);
        rows("and two are 9 at most", x, 3, 6);
        x.kind(10);
        x.offer(1, 1, 1);
        rows("an OFFER of another KIND binds nothing", x, 3, 6);
        x.reprice(0, 4);
        rows("an HOUR is 4 at most, so that two are 9 at most anyway", x, 4, 4);

        DUE.says(", and NEED times PRICE, of all HOURS, are the BEST together.");
        BoughtAhead y = Made.withNeed(10, 2, 12, 3, 0, 2);
        DUE.is("BEST, by the hour", y.best(0), 50);
        rows("10 where it is NEEDED, and 2 are left between", y, 10, 2, 10);
        y.need(0, 0, 1, 3);
        DUE.is("BEST, three of them bought", y.best(0), 3 * 12 + 2 * 10);
        rows("still", y, 10, 2, 10);
        y.need(0, 0, 1, 5);
        DUE.is("BEST, five of them bought", y.best(0), 5 * 12);
        // 3, 5, 2 times a row is 60, any two in a row 12: the middle is 2 .. 10, and what is beside it 12 less that
        rows("the last is the greatest", y, 10, 2, 10);
    }

    private static void theSameRow() {
        DUE.says("Of all such rows of PRICES one has, for each HOUR, the greatest sum from that HOUR on to the last one (the same row for all HOURS): those are told.");
        int rate = 3;
        int[][] offers = {{2, 4}};
        for (int[] need : new int[][] {{1, 1, 0}, {0, 1, 1}, {1, 1, 1}, {1, 2, 1}, {2, 1, 0}, {0, 0, 0}, {0, 2, 0}}) {
            BoughtAhead x = Made.withNeed(rate, 2, 4, need);
            int[] told = {x.price(0, 0), x.price(0, 1), x.price(0, 2)};
            String name = "NEED " + need[0] + need[1] + need[2];
            DUE.yes(name + ": it is one of them", AllThereAre.isProof(told, need, offers, x.best(0)));
            for (int i = 0; i < 64; i++) {
                int[] row = {i / 16, i / 4 % 4, i % 4};
                if (AllThereAre.isProof(row, need, offers, x.best(0))) {
                    DUE.yes(name + ": from 2 on", told[2] >= row[2]);
                    DUE.yes(name + ": from 1 on", told[1] + told[2] >= row[1] + row[2]);
                    DUE.yes(name + ": from 0 on", told[0] + told[1] + told[2] >= row[0] + row[1] + row[2]);
                }
            }
        }
        rows("NEED 110: 3 and 1, or 1 and 3, but 3 and 1 leave 3 for the last", Made.withNeed(rate, 2, 4, 1, 1, 0), 3, 1, 3);
    }

    private static void bought(String name, BoughtAhead x, int offer, int... row) {
        for (int hour = 0; hour < row.length; hour++) {
            DUE.is(name + ": bought at " + hour, x.tell(0, hour, 20 + offer), row[hour]);
        }
    }

    private static void blind() {
        DUE.says("BLIND: OFFERS of one kind are bought by a rule, HOUR by HOUR, from 0 on");
        BoughtAhead x = Made.withNeed(10, 3, 20, 1, 1, 1);
        x.offer(0, 2, 10);
        x.blind(1);
        bought("by OFFER 1's TERM and COST", x, 1, 1, 0, 1);
        bought("no OFFER 0", x, 0, 0, 0, 0);
        x.blind(0);
        bought("by OFFER 0's TERM and COST", x, 0, 0, 1, 0);
        bought("no OFFER 1", x, 1, 0, 0, 0);

        DUE.says("one is bought at this HOUR, and from then on one more is COUNTED for all these latest HOURS and the TERM - 1 next ones, and SPENT is asked anew.");
        BoughtAhead two = Made.withNeed(10, 2, 20, 2, 2);
        DUE.is("both HOURS are SPENT twice", two.blind(0), 2 * 20 + 2 * 10);
        bought("twice", two, 0, 0, 2);
        BoughtAhead one = Made.withNeed(10, 2, 20, 3, 1);
        DUE.is("both HOURS are SPENT once", one.blind(0), 20 + 3 * 10);
        bought("once", one, 0, 0, 1);
        BoughtAhead next = Made.withNeed(10, 2, 20, 2, 2, 3, 3);
        // two are COUNTED for 0 .. 2 at 1; at 3 the third of HOUR 2 and the first of HOUR 3 are SPENT, once
        DUE.is("two are COUNTED for the next HOUR", next.blind(0), 3 * 20 + 2 * 10 + 10 + 2 * 10);
        bought("next", next, 0, 0, 2, 0, 1);

        DUE.says("Promise 15: COST of BLIND for an OFFER;");
        BoughtAhead y = Made.withNeed(10, 3, 20, 1, 1, 1);
        y.buy(0, 0, 3);
        DUE.is("COST of the PLAN that was there", y.cost(0), 60);
        DUE.is("COST of BLIND", y.blind(0), 20 + 10);
    }

    private static void shares() {
        DUE.says("SHARES of what a KIND costs by the PLAN:");
        BoughtAhead x = Made.withNeed(10, 1, 7, 1, 1);
        x.kind(20);
        x.need(0, 1, 0, 1);
        DUE.is("by the hour", x.pays(0, 0), 20);
        x.buy(0, 1, 1);
        DUE.is("one bought", x.pays(0, 0), 17);
        DUE.is("the other KIND", x.pays(0, 1), 20);
        x.clear(0);
        DUE.is("not any more", x.pays(0, 0), 20);

        DUE.says("; OFFERS cost what they cost.");
        BoughtAhead y = Made.withNeed(10, 3, 25, 0, 1, 0);
        y.buy(0, 0, 1);
        DUE.is("NEEDED for one of three HOURS", y.pays(0, 0), 25);
        y.buy(0, 0, 0);
        y.buy(0, 1, 1);
        DUE.is("beyond the last HOUR", y.pays(0, 0), 25);

        DUE.says("OWNERS pay by turns of NEED: of each HOUR the machines AHEAD go, one by one, to the OWNER who NEEDS most yet");
        BoughtAhead z = Made.withNeed(10, 2, 0, 3, 1);
        z.need(2, 0, 0, 1);
        z.need(2, 0, 1, 3);
        z.buy(0, 0, 1);
        DUE.is("OWNER 0 has it in HOUR 0", z.pays(0, 0), 2 * 10 + 10);
        DUE.is("OWNER 2 has it in HOUR 1", z.pays(2, 0), 10 + 2 * 10);
        z.buy(0, 0, 3);
        // in both HOURS two go to who NEEDS 3; then both NEED 1 yet, and the third goes to the least
        DUE.is("three: OWNER 0 has all it NEEDS", z.pays(0, 0), 0);
        DUE.is("three: OWNER 2 NEEDS one beside in each HOUR", z.pays(2, 0), 10 + 10);
    }

    private static void none() {
        DUE.says("The constants: `NONE = -1`: There is none.");
        BoughtAhead x = Made.withNeed(10, 3, 20, 1, 1, 1);
        DUE.is("NONE", BoughtAhead.NONE, -1);
        DUE.is("no such RATE", x.kind(0), BoughtAhead.NONE);
        DUE.is("no such TERM", x.offer(0, 0, 20), BoughtAhead.NONE);
        DUE.is("no such KIND", x.tell(1, 0, 0), BoughtAhead.NONE);
        DUE.is("no such HOUR", x.price(0, 3), BoughtAhead.NONE);
        DUE.is("no such OFFER", x.about(1, 1), BoughtAhead.NONE);
        DUE.is("no such what", x.count(3), BoughtAhead.NONE);
    }

    private static void numbers() {
        DUE.says("Promise 3: A KIND: its number.");
        BoughtAhead x = new BoughtAhead();
        for (int rate = 5; rate < 8; rate++) {
            int kind = x.kind(rate);
            DUE.is("RATE of " + kind, x.about(kind, 10), rate);
            DUE.is("KINDS up to it", x.count(1), kind + 1);
        }

        DUE.says("Promise 4: An OFFER: its number.");
        for (int term = 5; term < 11; term++) {
            int offer = x.offer(term % 3, term, 100 - term);
            DUE.is("KIND of " + offer, x.about(offer, 0), term % 3);
            DUE.is("TERM of " + offer, x.about(offer, 1), term);
            DUE.is("COST of " + offer, x.about(offer, 2), 100 - term);
            DUE.is("OFFERS up to it", x.count(2), offer + 1);
        }

        DUE.says("Promise 10: Of a KIND in an HOUR, what 0: NEED of all, 1: AHEAD, 2: how many are NEEDED and not AHEAD");
        BoughtAhead y = Made.withNeed(10, 2, 15, 5, 0, 4);
        y.kind(20);
        y.need(3, 0, 2, 3);
        y.need(3, 1, 0, 8);
        y.buy(0, 1, 2);
        int[][] due = {{5, 0, 5}, {0, 2, 0}, {7, 2, 5}};
        for (int i = 0; i < 9; i++) {
            DUE.is("HOUR " + i / 3 + ", what " + i % 3, y.tell(0, i / 3, i % 3), due[i / 3][i % 3]);
        }
        DUE.is("the other KIND's NEED", y.tell(1, 0, 0), 8);
        DUE.is("the other KIND's AHEAD", y.tell(1, 1, 1), 0);
    }

    private static void objectsApart() {
        DUE.says("Nothing is promised beyond the answers and state changes described above");
        BoughtAhead x = Made.withNeed(10, 3, 20, 1, 1, 1);
        x.buy(0, 0, 1);
        x.image(0);
        BoughtAhead other = Made.withNeed(7, 2, 9, 4, 4);
        other.blind(0);
        other.best(0);
        other.image(1);
        DUE.is("another object's HOURS are its own", x.count(0), 3);
        DUE.is("its NEED", x.tell(0, 0, 0), 1);
        DUE.is("its PLAN", x.about(0, 3), 1);
        DUE.is("its BEST", x.best(0), 20);
        DUE.no("its images", x.again(1));
        DUE.no("its images", other.again(0));
        DUE.is("and so are the first one's", other.best(0), 4 * 9);
    }
}
