import java.util.ArrayList;
import java.util.HashMap;
import java.util.List;
import java.util.Map;

/** The document's sentences as plainly as they can be written, with no regard to speed or room. */
final class PlainModel {
    private static final class State {
        int hours = 24;
        final List<Integer> rates = new ArrayList<>();
        final List<int[]> offers = new ArrayList<>(); // KIND, TERM, COST
        final Map<String, Integer> needs = new HashMap<>(); // "owner kind hour"
        final Map<String, Integer> plan = new HashMap<>(); // "offer hour"

        State copy() {
            State s = new State();
            s.hours = hours;
            s.rates.addAll(rates);
            for (int[] offer : offers) {
                s.offers.add(offer.clone());
            }
            s.needs.putAll(needs);
            s.plan.putAll(plan);
            return s;
        }
    }

    private State now = new State();
    private final Map<Integer, State> images = new HashMap<>();

    long hours(int h) {
        if (h < 1 || h > 40) {
            return 0;
        }
        now.needs.keySet().removeIf(key -> lastNumber(key) >= h);
        now.plan.keySet().removeIf(key -> lastNumber(key) >= h);
        now.hours = h;
        return 1;
    }

    private static int lastNumber(String key) {
        return Integer.parseInt(key.substring(key.lastIndexOf(' ') + 1));
    }

    long kind(int rate) {
        if (now.rates.size() == 3 || rate < 1 || rate > 1000) {
            return -1;
        }
        now.rates.add(rate);
        return now.rates.size() - 1;
    }

    long offer(int kind, int term, int cost) {
        if (now.offers.size() == 6 || !isKind(kind) || term < 1 || term > 40 || cost < 0 || cost > 100000) {
            return -1;
        }
        now.offers.add(new int[] {kind, term, cost});
        return now.offers.size() - 1;
    }

    long reprice(int offer, int cost) {
        if (!isOffer(offer) || cost < 0 || cost > 100000) {
            return 0;
        }
        now.offers.get(offer)[2] = cost;
        return 1;
    }

    long need(int owner, int kind, int hour, int n) {
        if (owner < 0 || owner > 3 || !isKind(kind) || !isHour(hour) || n < 0 || n > 9) {
            return 0;
        }
        now.needs.put(owner + " " + kind + " " + hour, n);
        return 1;
    }

    long needs(int owner, int kind, int from, int eight) {
        String digits = String.format("%08x", eight);
        for (int i = 0; i < 8; i++) {
            if (!Character.isDigit(digits.charAt(i)) || !isHour((long) from + i)) {
                return 0;
            }
        }
        if (owner < 0 || owner > 3 || !isKind(kind)) {
            return 0;
        }
        for (int i = 0; i < 8; i++) {
            need(owner, kind, from + i, digits.charAt(i) - '0');
        }
        return 1;
    }

    long buy(int offer, int hour, int n) {
        if (!isOffer(offer) || !isHour(hour) || n < 0 || n > 60) {
            return 0;
        }
        now.plan.put(offer + " " + hour, n);
        return 1;
    }

    long clear(int kind) {
        if (!isKind(kind)) {
            return 0;
        }
        now.plan.keySet().removeIf(key -> now.offers.get(Integer.parseInt(key.split(" ")[0]))[0] == kind);
        return 1;
    }

    long tell(int kind, int hour, int what) {
        if (!isKind(kind) || !isHour(hour)) {
            return -1;
        }
        int need = needOfAll(kind, hour);
        int ahead = ahead(kind, hour);
        if (what >= 0 && what <= 3) {
            return new int[] {need, ahead, Math.max(0, need - ahead), Math.max(0, ahead - need)}[what];
        }
        if (what >= 10 && what <= 13) {
            return needOf(what - 10, kind, hour);
        }
        if (what >= 20 && what <= 25 && isOffer(what - 20) && now.offers.get(what - 20)[0] == kind) {
            return bought(what - 20, hour);
        }
        return -1;
    }

    long cost(int kind) {
        if (!isKind(kind)) {
            return -1;
        }
        long sum = offersCost(kind);
        for (int hour = 0; hour < now.hours; hour++) {
            sum += now.rates.get(kind) * tell(kind, hour, 2);
        }
        return sum;
    }

    long best(int kind) {
        return isKind(kind) ? plainBest(kind, needRow(kind)).cost() : -1;
    }

    long price(int kind, int hour) {
        return isKind(kind) && isHour(hour) ? plainBest(kind, needRow(kind)).prices()[hour] : -1;
    }

    long more(int kind, int hour, int n) {
        if (!isKind(kind) || !isHour(hour) || n < -60 || n > 60) {
            return -1000000000;
        }
        int[] row = needRow(kind);
        row[hour] = Math.max(0, row[hour] + n);
        return plainBest(kind, row).cost() - best(kind);
    }

    long blind(int offer) {
        if (!isOffer(offer)) {
            return -1;
        }
        int kind = now.offers.get(offer)[0];
        int term = now.offers.get(offer)[1];
        int cost = now.offers.get(offer)[2];
        clear(kind);
        int[] counted = new int[100];
        for (int hour = 0; hour < now.hours; hour++) {
            while (cost > 0 && spent(kind, hour, term, counted) * now.rates.get(kind) >= cost) {
                buy(offer, hour, bought(offer, hour) + 1);
                for (int h = Math.max(0, hour - term + 1); h <= hour + term - 1; h++) {
                    counted[h]++;
                }
            }
        }
        return cost(kind);
    }

    private int spent(int kind, int hour, int term, int[] counted) {
        int spent = 0;
        for (int back = 0; back < term && hour - back >= 0; back++) {
            if (needOfAll(kind, hour - back) > counted[hour - back]) {
                spent++;
            }
        }
        return spent;
    }

    long pays(int owner, int kind) {
        if (owner < 0 || owner > 3 || !isKind(kind)) {
            return -1;
        }
        int[] had = new int[4];
        long beside = 0;
        for (int hour = 0; hour < now.hours; hour++) {
            int[] yet = new int[4];
            for (int o = 0; o < 4; o++) {
                yet[o] = needOf(o, kind, hour);
            }
            for (int machine = ahead(kind, hour); machine > 0 && yet[most(yet)] > 0; machine--) {
                had[most(yet)]++;
                yet[most(yet)]--;
            }
            beside += (long) yet[owner] * now.rates.get(kind);
        }
        return beside + part(offersCost(kind), had, owner);
    }

    private static long part(long cost, int[] had, int owner) {
        int all = had[0] + had[1] + had[2] + had[3];
        if (all == 0) {
            return owner == 0 ? cost : 0;
        }
        long[] parts = new long[4];
        long left = cost;
        for (int o = 0; o < 4; o++) {
            parts[o] = cost * had[o] / all;
            left -= parts[o];
        }
        parts[most(had)] += left;
        return parts[owner];
    }

    private static int most(int[] row) {
        for (int o = 0; o < 4; o++) {
            if (row[o] == Math.max(Math.max(row[0], row[1]), Math.max(row[2], row[3]))) {
                return o;
            }
        }
        return 0;
    }

    long about(int k, int what) {
        if (what >= 0 && what <= 2) {
            return isOffer(k) ? now.offers.get(k)[what] : -1;
        }
        if (what == 3) {
            return isOffer(k) ? boughtInAll(k) : -1;
        }
        if (what < 10 || what > 13 || !isKind(k)) {
            return -1;
        }
        if (what == 10) {
            return now.rates.get(k);
        }
        if (what == 11) {
            return now.offers.stream().filter(offer -> offer[0] == k).count();
        }
        java.util.stream.IntStream row = java.util.Arrays.stream(needRow(k));
        return what == 12 ? row.sum() : row.max().getAsInt();
    }

    long count(int what) {
        return what == 0 ? now.hours : what == 1 ? now.rates.size() : what == 2 ? now.offers.size() : -1;
    }

    long image(int k) {
        if (k < 0 || k > 2) {
            return 0;
        }
        images.put(k, now.copy());
        return 1;
    }

    long again(int k) {
        if (!images.containsKey(k)) {
            return 0;
        }
        now = images.get(k).copy();
        return 1;
    }

    private boolean isKind(int kind) {
        return kind >= 0 && kind < now.rates.size();
    }

    private boolean isOffer(int offer) {
        return offer >= 0 && offer < now.offers.size();
    }

    private boolean isHour(long hour) {
        return hour >= 0 && hour < now.hours;
    }

    private int needOf(int owner, int kind, int hour) {
        return now.needs.getOrDefault(owner + " " + kind + " " + hour, 0);
    }

    private int needOfAll(int kind, int hour) {
        return needOf(0, kind, hour) + needOf(1, kind, hour) + needOf(2, kind, hour) + needOf(3, kind, hour);
    }

    private int[] needRow(int kind) {
        int[] row = new int[now.hours];
        for (int hour = 0; hour < now.hours; hour++) {
            row[hour] = needOfAll(kind, hour);
        }
        return row;
    }

    private int bought(int offer, int hour) {
        return now.plan.getOrDefault(offer + " " + hour, 0);
    }

    private int boughtInAll(int offer) {
        int sum = 0;
        for (int hour = 0; hour < now.hours; hour++) {
            sum += bought(offer, hour);
        }
        return sum;
    }

    private int ahead(int kind, int hour) {
        int sum = 0;
        for (int offer = 0; offer < now.offers.size(); offer++) {
            for (int at = 0; at <= hour; at++) {
                boolean there = now.offers.get(offer)[0] == kind && at + now.offers.get(offer)[1] > hour;
                sum += there ? bought(offer, at) : 0;
            }
        }
        return sum;
    }

    private long offersCost(int kind) {
        long sum = 0;
        for (int offer = 0; offer < now.offers.size(); offer++) {
            if (now.offers.get(offer)[0] == kind) {
                sum += (long) boughtInAll(offer) * now.offers.get(offer)[2];
            }
        }
        return sum;
    }

    private PlainBest plainBest(int kind, int[] need) {
        List<int[]> own = new ArrayList<>();
        for (int[] offer : now.offers) {
            if (offer[0] == kind) {
                own.add(new int[] {offer[1], offer[2]});
            }
        }
        return new PlainBest(now.rates.get(kind), need, own.toArray(new int[0][]));
    }
}
