import java.util.Arrays;

/** Machine hours bought ahead: the document's promises 1 to 20. */
public final class BoughtAhead {
    public static final int NONE = -1;

    private static final int FIRST_HOURS = 24;
    private static final int MOST_HOURS = 40;
    private static final int MOST_KINDS = 3;
    private static final int MOST_RATE = 1000;
    private static final int MOST_OFFERS = 6;
    private static final int MOST_TERM = 40;
    private static final int MOST_COST = 100000;
    private static final int OWNERS = 4;
    private static final int MOST_NEED = 9;
    private static final int MOST_BOUGHT = 60;
    private static final int MOST_MORE = 60;
    private static final int NO_MORE = -1000000000;
    private static final int IMAGES = 3;
    private static final int HALF_BYTES = 8;

    private final Book book;
    private final Book[] images;
    private final Flow flow;
    private final BlindRule blindRule;
    private final Shares shares;

    public BoughtAhead() {
        book = new Book();
        images = new Book[IMAGES];
        flow = new Flow();
        blindRule = new BlindRule();
        shares = new Shares();
    }

    public boolean hours(int h) {
        if (h < 1 || h > MOST_HOURS) {
            return false;
        }
        book.setHours(h);
        return true;
    }

    public int kind(int rate) {
        if (book.kinds >= MOST_KINDS || rate < 1 || rate > MOST_RATE) {
            return NONE;
        }
        return book.addKind(rate);
    }

    public int offer(int kind, int term, int cost) {
        if (book.offers >= MOST_OFFERS || !book.hasKind(kind)) {
            return NONE;
        }
        if (term < 1 || term > MOST_TERM || !isCost(cost)) {
            return NONE;
        }
        return book.addOffer(kind, term, cost);
    }

    public boolean reprice(int offer, int cost) {
        if (!book.hasOffer(offer) || !isCost(cost)) {
            return false;
        }
        book.costs[offer] = cost;
        return true;
    }

    public boolean need(int owner, int kind, int hour, int n) {
        if (!isOwner(owner) || !book.hasKind(kind) || !book.hasHour(hour)) {
            return false;
        }
        if (n < 0 || n > MOST_NEED) {
            return false;
        }
        book.setNeed(owner, kind, hour, n);
        return true;
    }

    public boolean needs(int owner, int kind, int from, int eight) {
        if (!isOwner(owner) || !book.hasKind(kind)) {
            return false;
        }
        if (from < 0 || from > book.hours - HALF_BYTES || !areNeeds(eight)) {
            return false;
        }
        for (int i = 0; i < HALF_BYTES; i++) {
            book.setNeed(owner, kind, from + i, halfByte(eight, i));
        }
        return true;
    }

    public boolean buy(int offer, int hour, int n) {
        if (!book.hasOffer(offer) || !book.hasHour(hour) || n < 0 || n > MOST_BOUGHT) {
            return false;
        }
        book.setBought(offer, hour, n);
        return true;
    }

    public boolean clear(int kind) {
        if (!book.hasKind(kind)) {
            return false;
        }
        book.buyNothing(kind);
        return true;
    }

    public int tell(int kind, int hour, int what) {
        if (!book.hasKind(kind) || !book.hasHour(hour)) {
            return NONE;
        }
        switch (what) {
            case 0:
                return book.needOfAll(kind, hour);
            case 1:
                return book.ahead(kind, hour);
            case 2:
                return book.notAhead(kind, hour);
            case 3:
                return Math.max(0, book.ahead(kind, hour) - book.needOfAll(kind, hour));
            default:
                return tellOfOne(kind, hour, what);
        }
    }

    public long cost(int kind) {
        return book.hasKind(kind) ? book.planCost(kind) : NONE;
    }

    public long best(int kind) {
        return book.hasKind(kind) ? flow.least(book, kind) : NONE;
    }

    public int price(int kind, int hour) {
        if (!book.hasKind(kind) || !book.hasHour(hour)) {
            return NONE;
        }
        flow.least(book, kind);
        return flow.priceOf(hour);
    }

    public int more(int kind, int hour, int n) {
        if (!book.hasKind(kind) || !book.hasHour(hour) || n < -MOST_MORE || n > MOST_MORE) {
            return NO_MORE;
        }
        flow.least(book, kind);
        int needed = book.needOfAll(kind, hour);
        return (int) flow.change(hour, Math.max(n, -needed));
    }

    public long blind(int offer) {
        if (!book.hasOffer(offer)) {
            return NONE;
        }
        int kind = book.kindOf[offer];
        book.buyNothing(kind);
        blindRule.buyBlindly(book, offer);
        return book.planCost(kind);
    }

    public long pays(int owner, int kind) {
        if (!isOwner(owner) || !book.hasKind(kind)) {
            return NONE;
        }
        return shares.shareOf(book, kind, owner);
    }

    public int about(int k, int what) {
        if (what >= 10) {
            return book.hasKind(k) ? aboutKind(k, what) : NONE;
        }
        return book.hasOffer(k) ? aboutOffer(k, what) : NONE;
    }

    public int count(int what) {
        switch (what) {
            case 0:
                return book.hours;
            case 1:
                return book.kinds;
            case 2:
                return book.offers;
            default:
                return NONE;
        }
    }

    public boolean image(int k) {
        if (k < 0 || k >= IMAGES) {
            return false;
        }
        if (images[k] == null) {
            images[k] = new Book();
        }
        images[k].takeOver(book);
        return true;
    }

    public boolean again(int k) {
        if (k < 0 || k >= IMAGES || images[k] == null) {
            return false;
        }
        book.takeOver(images[k]);
        return true;
    }

    private int tellOfOne(int kind, int hour, int what) {
        if (what >= 10 && what < 10 + OWNERS) {
            return book.needOf(what - 10, kind, hour);
        }
        if (what >= 20 && what < 20 + MOST_OFFERS && book.isOfferOf(what - 20, kind)) {
            return book.boughtAt(what - 20, hour);
        }
        return NONE;
    }

    private int aboutOffer(int offer, int what) {
        switch (what) {
            case 0:
                return book.kindOf[offer];
            case 1:
                return book.terms[offer];
            case 2:
                return book.costs[offer];
            case 3:
                return book.boughtInAll(offer);
            default:
                return NONE;
        }
    }

    private int aboutKind(int kind, int what) {
        switch (what) {
            case 10:
                return book.rates[kind];
            case 11:
                return book.offersOf(kind);
            case 12:
                return book.needInAll(kind);
            case 13:
                return book.mostNeed(kind);
            default:
                return NONE;
        }
    }

    private static boolean isOwner(int owner) {
        return owner >= 0 && owner < OWNERS;
    }

    private static boolean isCost(int cost) {
        return cost >= 0 && cost <= MOST_COST;
    }

    private static boolean areNeeds(int eight) {
        for (int i = 0; i < HALF_BYTES; i++) {
            if (halfByte(eight, i) > MOST_NEED) {
                return false;
            }
        }
        return true;
    }

    private static int halfByte(int eight, int i) {
        return (eight >>> (28 - 4 * i)) & 15;
    }

    /**
     * All that is told. What lies beyond the HOURS, KINDS and OFFERS that there are is 0 at all
     * times, so that what comes anew finds nothing of what was there before.
     */
    private static final class Book {
        private int hours;
        private int kinds;
        private int offers;
        private final int[] rates;
        private final int[] kindOf;
        private final int[] terms;
        private final int[] costs;
        private final int[] needs;
        private final int[] bought;

        Book() {
            hours = FIRST_HOURS;
            rates = new int[MOST_KINDS];
            kindOf = new int[MOST_OFFERS];
            terms = new int[MOST_OFFERS];
            costs = new int[MOST_OFFERS];
            needs = new int[MOST_KINDS * OWNERS * MOST_HOURS];
            bought = new int[MOST_OFFERS * MOST_HOURS];
        }

        void takeOver(Book other) {
            hours = other.hours;
            kinds = other.kinds;
            offers = other.offers;
            System.arraycopy(other.rates, 0, rates, 0, rates.length);
            System.arraycopy(other.kindOf, 0, kindOf, 0, kindOf.length);
            System.arraycopy(other.terms, 0, terms, 0, terms.length);
            System.arraycopy(other.costs, 0, costs, 0, costs.length);
            System.arraycopy(other.needs, 0, needs, 0, needs.length);
            System.arraycopy(other.bought, 0, bought, 0, bought.length);
        }

        boolean hasHour(int hour) {
            return hour >= 0 && hour < hours;
        }

        boolean hasKind(int kind) {
            return kind >= 0 && kind < kinds;
        }

        boolean hasOffer(int offer) {
            return offer >= 0 && offer < offers;
        }

        boolean isOfferOf(int offer, int kind) {
            return hasOffer(offer) && kindOf[offer] == kind;
        }

        void setHours(int h) {
            forgetFrom(needs, h);
            forgetFrom(bought, h);
            hours = h;
        }

        private static void forgetFrom(int[] rows, int hour) {
            for (int row = 0; row < rows.length; row += MOST_HOURS) {
                Arrays.fill(rows, row + hour, row + MOST_HOURS, 0);
            }
        }

        int addKind(int rate) {
            rates[kinds] = rate;
            kinds++;
            return kinds - 1;
        }

        int addOffer(int kind, int term, int cost) {
            kindOf[offers] = kind;
            terms[offers] = term;
            costs[offers] = cost;
            offers++;
            return offers - 1;
        }

        void setNeed(int owner, int kind, int hour, int n) {
            needs[(kind * OWNERS + owner) * MOST_HOURS + hour] = n;
        }

        int needOf(int owner, int kind, int hour) {
            return needs[(kind * OWNERS + owner) * MOST_HOURS + hour];
        }

        int needOfAll(int kind, int hour) {
            int sum = 0;
            for (int owner = 0; owner < OWNERS; owner++) {
                sum += needOf(owner, kind, hour);
            }
            return sum;
        }

        int needInAll(int kind) {
            int sum = 0;
            for (int hour = 0; hour < hours; hour++) {
                sum += needOfAll(kind, hour);
            }
            return sum;
        }

        int mostNeed(int kind) {
            int most = 0;
            for (int hour = 0; hour < hours; hour++) {
                most = Math.max(most, needOfAll(kind, hour));
            }
            return most;
        }

        int offersOf(int kind) {
            int sum = 0;
            for (int offer = 0; offer < offers; offer++) {
                sum += kindOf[offer] == kind ? 1 : 0;
            }
            return sum;
        }

        void setBought(int offer, int hour, int n) {
            bought[offer * MOST_HOURS + hour] = n;
        }

        int boughtAt(int offer, int hour) {
            return bought[offer * MOST_HOURS + hour];
        }

        int boughtInAll(int offer) {
            return boughtWithin(offer, 0, hours - 1);
        }

        void buyNothing(int kind) {
            for (int offer = 0; offer < offers; offer++) {
                if (kindOf[offer] == kind) {
                    int row = offer * MOST_HOURS;
                    Arrays.fill(bought, row, row + MOST_HOURS, 0);
                }
            }
        }

        int ahead(int kind, int hour) {
            int sum = 0;
            for (int offer = 0; offer < offers; offer++) {
                if (kindOf[offer] == kind) {
                    sum += boughtWithin(offer, Math.max(0, hour - terms[offer] + 1), hour);
                }
            }
            return sum;
        }

        int notAhead(int kind, int hour) {
            return Math.max(0, needOfAll(kind, hour) - ahead(kind, hour));
        }

        long offersCost(int kind) {
            long sum = 0;
            for (int offer = 0; offer < offers; offer++) {
                if (kindOf[offer] == kind) {
                    sum += (long) boughtInAll(offer) * costs[offer];
                }
            }
            return sum;
        }

        long planCost(int kind) {
            long sum = offersCost(kind);
            for (int hour = 0; hour < hours; hour++) {
                sum += (long) notAhead(kind, hour) * rates[kind];
            }
            return sum;
        }

        private int boughtWithin(int offer, int first, int last) {
            int sum = 0;
            for (int hour = first; hour <= last; hour++) {
                sum += boughtAt(offer, hour);
            }
            return sum;
        }
    }

    /**
     * BEST as a cheapest flow. Its points, 0 .. last, are the borders of HOURS: a machine carries
     * one unit from the point where it begins to the point where it ends, an idle machine carries
     * one back over an HOUR for nothing, and over each HOUR as many go forth as are NEEDED, those
     * that go back taken off. The worth of a point is the sum of PRICES from it to the last one.
     * A step of a path goes along a way, or (its number being MOST_WAYS more) against it, by taking
     * back what was carried there.
     */
    private static final class Flow {
        private static final int MOST_WAYS = MOST_OFFERS + 2;
        private static final int MOST_POINTS = MOST_HOURS + 1;
        private static final int FAR = 1000000000;

        private int last;
        private int ways;
        private final int[] lengths;
        private final int[] fees;
        private final int[] carried;
        private final int[] worth;
        private final int[] far;
        private final int[] step;
        private final boolean[] settled;

        Flow() {
            lengths = new int[MOST_WAYS];
            fees = new int[MOST_WAYS];
            carried = new int[MOST_WAYS * MOST_POINTS];
            worth = new int[MOST_POINTS];
            far = new int[MOST_POINTS];
            step = new int[MOST_POINTS];
            settled = new boolean[MOST_POINTS];
        }

        long least(Book book, int kind) {
            layWays(book, kind);
            Arrays.fill(carried, 0);
            Arrays.fill(worth, 0);
            long sum = 0;
            for (int hour = 0; hour < last; hour++) {
                sum += change(hour, book.needOfAll(kind, hour));
            }
            return sum;
        }

        /** What it costs that so many more (or fewer) are NEEDED in an HOUR than are carried now. */
        long change(int hour, int n) {
            return n < 0 ? carry(hour + 1, hour, -n) : carry(hour, hour + 1, n);
        }

        /** The distances to the last point are the greatest sums that a PROOF can have. */
        int priceOf(int hour) {
            raiseWorth(last, NONE);
            return worth[hour] - worth[hour + 1];
        }

        /*
         * An OFFER that the last HOUR cuts short is no better than the same one bought earlier, so
         * only those are ways that end in time; and one that costs no less than its HOURS by RATE
         * neither lowers the BEST nor binds a PRICE.
         */
        private void layWays(Book book, int kind) {
            last = book.hours;
            ways = 0;
            addWay(-1, 0);
            addWay(1, book.rates[kind]);
            for (int offer = 0; offer < book.offers; offer++) {
                int length = Math.min(book.terms[offer], last);
                if (book.kindOf[offer] == kind && book.costs[offer] < length * book.rates[kind]) {
                    addWay(length, book.costs[offer]);
                }
            }
        }

        private void addWay(int length, int fee) {
            lengths[ways] = length;
            fees[ways] = fee;
            ways++;
        }

        private long carry(int from, int to, int units) {
            long sum = 0;
            int left = units;
            for (int pass = 0; pass < units && left > 0; pass++) {
                raiseWorth(to, from);
                int n = roomOnPath(from, to, left);
                sendOnPath(from, to, n);
                sum += (long) n * (worth[from] - worth[to]);
                left -= n;
            }
            return sum;
        }

        /*
         * Finds the cheapest paths to a goal, nearest points first (Dijkstra's way, the fees less
         * the fall of worth being 0 at least), until the start is settled, and raises the worth of
         * points by their distance, so that the worth falls by just the fees along these paths.
         */
        private void raiseWorth(int goal, int start) {
            for (int point = 0; point <= last; point++) {
                far[point] = FAR;
                settled[point] = false;
            }
            far[goal] = 0;
            int point = goal;
            for (int round = 0; round <= last && point != NONE; round++) {
                settled[point] = true;
                if (point == start) {
                    break;
                }
                reachThose(point);
                point = nearest();
            }
            int most = start == NONE ? FAR : far[start];
            for (int p = 0; p <= last; p++) {
                worth[p] += Math.min(far[p], most);
            }
        }

        private int nearest() {
            int found = NONE;
            for (int point = 0; point <= last; point++) {
                if (!settled[point] && (found == NONE || far[point] < far[found])) {
                    found = point;
                }
            }
            return found;
        }

        private void reachThose(int next) {
            for (int way = 0; way < ways; way++) {
                reach(next - lengths[way], next, fees[way], way);
                if (carried[way * MOST_POINTS + next] > 0) {
                    reach(next + lengths[way], next, -fees[way], way + MOST_WAYS);
                }
            }
        }

        private void reach(int point, int next, int fee, int by) {
            if (point < 0 || point > last || settled[point]) {
                return;
            }
            int distance = far[next] + fee - worth[point] + worth[next];
            if (distance < far[point]) {
                far[point] = distance;
                step[point] = by;
            }
        }

        private boolean takesBack(int point) {
            return step[point] >= MOST_WAYS;
        }

        private int after(int point) {
            int by = step[point];
            return by >= MOST_WAYS ? point - lengths[by - MOST_WAYS] : point + lengths[by];
        }

        private int roomOnPath(int from, int to, int units) {
            int room = units;
            int point = from;
            for (int steps = 0; steps < last && point != to; steps++) {
                int next = after(point);
                if (takesBack(point)) {
                    room = Math.min(room, carried[(step[point] - MOST_WAYS) * MOST_POINTS + next]);
                }
                point = next;
            }
            return room;
        }

        private void sendOnPath(int from, int to, int units) {
            int point = from;
            for (int steps = 0; steps < last && point != to; steps++) {
                int next = after(point);
                if (takesBack(point)) {
                    carried[(step[point] - MOST_WAYS) * MOST_POINTS + next] -= units;
                } else {
                    carried[step[point] * MOST_POINTS + point] += units;
                }
                point = next;
            }
        }
    }

    /** The rule that sees no HOUR ahead. */
    private static final class BlindRule {
        private final int[] counted;

        BlindRule() {
            counted = new int[MOST_HOURS];
        }

        void buyBlindly(Book book, int offer) {
            Arrays.fill(counted, 0);
            for (int hour = 0; hour < book.hours; hour++) {
                book.setBought(offer, hour, buyAt(book, offer, hour));
            }
        }

        private int buyAt(Book book, int offer, int hour) {
            int n = 0;
            while (n < MOST_BOUGHT && isSpent(book, offer, hour)) {
                countOneMore(book, offer, hour);
                n++;
            }
            return n;
        }

        private boolean isSpent(Book book, int offer, int hour) {
            int kind = book.kindOf[offer];
            int spent = 0;
            for (int h = firstOfLatest(book, offer, hour); h <= hour; h++) {
                spent += book.needOfAll(kind, h) > counted[h] ? 1 : 0;
            }
            return book.costs[offer] > 0 && spent * book.rates[kind] >= book.costs[offer];
        }

        private void countOneMore(Book book, int offer, int hour) {
            int end = Math.min(book.hours, hour + book.terms[offer]);
            for (int h = firstOfLatest(book, offer, hour); h < end; h++) {
                counted[h]++;
            }
        }

        private static int firstOfLatest(Book book, int offer, int hour) {
            return Math.max(0, hour - book.terms[offer] + 1);
        }
    }

    /** What OWNERS pay for a KIND by the PLAN. */
    private static final class Shares {
        private final int[] yet;
        private final int[] had;
        private final int[] besides;

        Shares() {
            yet = new int[OWNERS];
            had = new int[OWNERS];
            besides = new int[OWNERS];
        }

        long shareOf(Book book, int kind, int owner) {
            Arrays.fill(had, 0);
            Arrays.fill(besides, 0);
            for (int hour = 0; hour < book.hours; hour++) {
                handOut(book, kind, hour);
            }
            return (long) besides[owner] * book.rates[kind] + partOf(book.offersCost(kind), owner);
        }

        private void handOut(Book book, int kind, int hour) {
            for (int owner = 0; owner < OWNERS; owner++) {
                yet[owner] = book.needOf(owner, kind, hour);
            }
            // what is AHEAD beyond the NEED goes to nobody
            int n = Math.min(book.ahead(kind, hour), book.needOfAll(kind, hour));
            for (int i = 0; i < n; i++) {
                int owner = firstWithMost(yet);
                yet[owner]--;
                had[owner]++;
            }
            for (int owner = 0; owner < OWNERS; owner++) {
                besides[owner] += yet[owner];
            }
        }

        private long partOf(long cost, int owner) {
            long all = 0;
            for (int i = 0; i < OWNERS; i++) {
                all += had[i];
            }
            long left = cost;
            for (int i = 0; i < OWNERS; i++) {
                left -= cut(cost, had[i], all);
            }
            return cut(cost, had[owner], all) + (owner == firstWithMost(had) ? left : 0);
        }

        private static long cut(long cost, int part, long all) {
            return all > 0 ? cost * part / all : 0;
        }

        private static int firstWithMost(int[] row) {
            int first = 0;
            for (int owner = 1; owner < OWNERS; owner++) {
                if (row[owner] > row[first]) {
                    first = owner;
                }
            }
            return first;
        }
    }
}
