import java.util.ArrayList;
import java.util.List;

/** A call of the face: what it answers when it is refused, and which numbers each of its places takes. */
final class FaceCall {
    interface Asked {
        long of(BoughtAhead x, int[] numbers);
    }

    final String name;
    final long refused;
    final Asked asked;
    final boolean open; // false: it is refused with all numbers
    final int[][] taken; // the least and the greatest number of each place; the greatest is -1 if there is none

    private FaceCall(String name, long refused, boolean open, Asked asked, int[]... taken) {
        this.name = name;
        this.refused = refused;
        this.open = open;
        this.asked = asked;
        this.taken = taken;
    }

    boolean canBeTaken() {
        boolean can = open;
        for (int[] place : taken) {
            can &= place[0] <= place[1];
        }
        return can;
    }

    String written(int[] numbers) {
        StringBuilder text = new StringBuilder(name).append("(");
        for (int i = 0; i < numbers.length; i++) {
            text.append(i == 0 ? "" : ", ").append(numbers[i]);
        }
        return text.append(")").toString();
    }

    private static long bool(boolean answer) {
        return answer ? 1 : 0;
    }

    /** All calls of the face, by the document's ranges, where there are so many of each. */
    static List<FaceCall> all(int hours, int kinds, int offers, int images) {
        int[] kind = {0, kinds - 1};
        int[] offer = {0, offers - 1};
        int[] hour = {0, hours - 1};
        int[] owner = {0, 3};
        int[] term = {1, 40};
        int[] cost = {0, 100000};
        List<FaceCall> list = new ArrayList<>();
        list.add(new FaceCall("hours", 0, true, (x, a) -> bool(x.hours(a[0])), new int[] {1, 40}));
        list.add(new FaceCall("kind", -1, kinds < 3, (x, a) -> x.kind(a[0]), new int[] {1, 1000}));
        list.add(new FaceCall("offer", -1, offers < 6, (x, a) -> x.offer(a[0], a[1], a[2]), kind, term, cost));
        list.add(new FaceCall("reprice", 0, true, (x, a) -> bool(x.reprice(a[0], a[1])), offer, cost));
        list.add(new FaceCall("need", 0, true, (x, a) -> bool(x.need(a[0], a[1], a[2], a[3])),
                owner, kind, hour, new int[] {0, 9}));
        list.add(new FaceCall("needs 12345678", 0, hours >= 8,
                (x, a) -> bool(x.needs(a[0], a[1], a[2], 0x12345678)), owner, kind, new int[] {0, Math.max(0, hours - 8)}));
        list.add(new FaceCall("buy", 0, true, (x, a) -> bool(x.buy(a[0], a[1], a[2])), offer, hour, new int[] {0, 60}));
        list.add(new FaceCall("clear", 0, true, (x, a) -> bool(x.clear(a[0])), kind));
        list.add(new FaceCall("cost", -1, true, (x, a) -> x.cost(a[0]), kind));
        list.add(new FaceCall("best", -1, true, (x, a) -> x.best(a[0]), kind));
        list.add(new FaceCall("price", -1, true, (x, a) -> x.price(a[0], a[1]), kind, hour));
        list.add(new FaceCall("more", -1000000000, true, (x, a) -> x.more(a[0], a[1], a[2]), kind, hour, new int[] {-60, 60}));
        list.add(new FaceCall("blind", -1, true, (x, a) -> x.blind(a[0]), offer));
        list.add(new FaceCall("pays", -1, true, (x, a) -> x.pays(a[0], a[1]), owner, kind));
        list.add(new FaceCall("count", -1, true, (x, a) -> x.count(a[0]), new int[] {0, 2}));
        list.add(new FaceCall("image", 0, true, (x, a) -> bool(x.image(a[0])), new int[] {0, 2}));
        list.add(new FaceCall("again", 0, true, (x, a) -> bool(x.again(a[0])), new int[] {0, images - 1}));
        for (int what = 0; what < 4; what++) {
            list.add(about(what, offer));
            list.add(tell(what, kind, hour));
            list.add(about(10 + what, kind));
            list.add(tell(10 + what, kind, hour));
        }
        list.add(new FaceCall("tell, what in four", -1, true, (x, a) -> x.tell(kind[1], hour[1], a[0]), new int[] {0, kinds > 0 ? 3 : -1}));
        list.add(new FaceCall("tell, what of OWNERS", -1, true, (x, a) -> x.tell(kind[1], hour[1], a[0]), new int[] {10, kinds > 0 ? 13 : -1}));
        list.add(new FaceCall("about, what of OFFERS", -1, true, (x, a) -> x.about(offer[1], a[0]), new int[] {0, offers > 0 ? 3 : -1}));
        list.add(new FaceCall("about, what of KINDS", -1, true, (x, a) -> x.about(kind[1], a[0]), new int[] {10, kinds > 0 ? 13 : -1}));
        return list;
    }

    private static FaceCall about(int what, int[] k) {
        return new FaceCall("about what " + what, -1, true, (x, a) -> x.about(a[0], what), k);
    }

    private static FaceCall tell(int what, int[] kind, int[] hour) {
        return new FaceCall("tell what " + what, -1, true, (x, a) -> x.tell(a[0], a[1], what), kind, hour);
    }
}
