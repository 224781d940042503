import java.util.function.Consumer;

/**
 * Each place of each call: the last number that is taken and the first that is refused, on both sides,
 * the smallest and the largest int; and all that is told is as it was before, where a call is refused.
 */
public final class RangeTest {
    private static final Due DUE = new Due("RangeTest");
    private static final int MIN = Integer.MIN_VALUE;
    private static final int MAX = Integer.MAX_VALUE;

    private final String name;
    private final Consumer<BoughtAhead> calls;
    private final Told before;

    private RangeTest(String name, Consumer<BoughtAhead> calls) {
        this.name = name;
        this.calls = calls;
        before = Told.after(calls);
    }

    public static void main(String[] args) {
        new RangeTest("new", x -> { }).all(24, 0, 0, 0);
        new RangeTest("a KIND alone", x -> x.kind(7)).all(24, 1, 0, 0);
        new RangeTest("smallest", RangeTest::smallest).all(1, 1, 1, 1);
        new RangeTest("seven HOURS", x -> ordinary(x, 7)).all(7, 2, 3, 2);
        new RangeTest("eight HOURS", x -> ordinary(x, 8)).all(8, 2, 3, 2);
        new RangeTest("ordinary", x -> ordinary(x, 12)).all(12, 2, 3, 2);
        new RangeTest("full", RangeTest::full).all(40, 3, 6, 3);
        toldSeesEachChange();
        DUE.end();
    }

    private static void smallest(BoughtAhead x) {
        x.hours(1);
        x.kind(1);
        x.offer(0, 40, 3);
        x.image(0);
        x.need(3, 0, 0, 5);
        x.buy(0, 0, 1);
    }

    private static void ordinary(BoughtAhead x, int hours) {
        x.hours(hours);
        x.kind(10);
        x.kind(20);
        x.offer(0, 3, 20);
        x.offer(1, 4, 50);
        x.offer(1, 1, 15);
        for (int hour = 0; hour < hours; hour++) {
            x.need(hour % 4, 0, hour, 1 + hour % 9);
            x.need(3 - hour % 3, 1, hour, 9 - hour % 7);
            x.buy(hour % 3, hour, 1 + hour % 4);
        }
        x.image(0);
        x.reprice(1, 40);
        x.need(0, 1, 0, 3);
        x.buy(0, 1, 60);
        x.image(1);
        x.need(1, 0, hours - 1, 8);
        x.buy(1, hours - 1, 7);
    }

    private static void full(BoughtAhead x) {
        x.hours(40);
        for (int i = 0; i < 6; i++) {
            x.kind(1000 - i);
            x.offer(i % 3, 40 - i, 100000 - i);
        }
        x.image(0);
        for (int i = 0; i < 12; i++) {
            for (int from = 0; from < 40; from += 8) {
                x.needs(i / 3, i % 3, from, 0x99999999);
            }
        }
        x.image(1);
        for (int hour = 0; hour < 40; hour++) {
            for (int offer = 0; offer < 6; offer++) {
                x.buy(offer, hour, 60);
            }
        }
        x.image(2);
    }

    private void all(int hours, int kinds, int offers, int images) {
        for (FaceCall call : FaceCall.all(hours, kinds, offers, images)) {
            DUE.part(name + ": " + call.name);
            ranges(call);
            refused(call, row(call, MIN));
            refused(call, row(call, MAX));
        }
        DUE.part(name + ": another what");
        others(kinds, offers);
    }

    private static int[] row(FaceCall call, int n) {
        int[] row = new int[call.taken.length];
        java.util.Arrays.fill(row, n);
        return row;
    }

    private void ranges(FaceCall call) {
        for (int side = 0; side < 2; side++) {
            int[] numbers = new int[call.taken.length];
            for (int place = 0; place < numbers.length; place++) {
                numbers[place] = Math.max(call.taken[place][0], call.taken[place][side]);
            }
            takenOrNot(call, numbers);
            for (int place = 0; place < numbers.length; place++) {
                oneOff(call, numbers, place);
            }
        }
    }

    private void oneOff(FaceCall call, int[] numbers, int place) {
        int[] range = call.taken[place];
        int[] other = numbers.clone();
        other[place] = Math.max(range[0], range[1]);
        takenOrNot(call, other);
        for (int n : new int[] {range[0] - 1, Math.max(range[0] - 1, range[1]) + 1, MIN, MAX}) {
            other[place] = n;
            refused(call, other);
        }
    }

    private void takenOrNot(FaceCall call, int[] numbers) {
        if (!call.canBeTaken()) {
            refused(call, numbers);
            return;
        }
        DUE.no(call.written(numbers) + " refused", answer(call, numbers) == call.refused);
    }

    private long answer(FaceCall call, int[] numbers) {
        BoughtAhead x = new BoughtAhead();
        calls.accept(x);
        return call.asked.of(x, numbers);
    }

    private void refused(FaceCall call, int[] numbers) {
        DUE.is(call.written(numbers), answer(call, numbers), call.refused);
        int[] kept = numbers.clone();
        Told after = Told.after(calls.andThen(x -> call.asked.of(x, kept)));
        DUE.yes("after " + call.written(numbers) + " all is as it was", after.isAs(before));
    }

    /** The whats between those that there are, and OFFERS that there are not. */
    private void others(int kinds, int offers) {
        BoughtAhead x = new BoughtAhead();
        calls.accept(x);
        for (int k = -1; k < 7; k++) {
            for (int what : new int[] {MIN, -1, 4, 9, 14, 19, 26, MAX}) {
                DUE.is("about(" + k + ", " + what + ")", x.about(k, what), -1);
                DUE.is("tell(" + k + ", 0, " + what + ")", x.tell(k, 0, what), -1);
            }
        }
        for (int offer = 0; offer < 6; offer++) {
            for (int kind = 0; kind < kinds && offer >= offers; kind++) {
                DUE.is("tell of OFFER " + offer, x.tell(kind, 0, 20 + offer), -1);
            }
            DUE.is("tell of no KIND", x.tell(kinds, 0, 20 + offer), -1);
            DUE.is("tell of no KIND", x.tell(-1, 0, 20 + offer), -1);
            DUE.is("tell of no HOUR", x.tell(0, -1, 20 + offer), -1);
            DUE.is("tell of no HOUR", x.tell(0, x.count(0), 20 + offer), -1);
        }
    }

    /** Else it would prove nothing that all is as it was. */
    private static void toldSeesEachChange() {
        DUE.part("all that is told sees each change");
        RangeTest test = new RangeTest("ordinary", x -> ordinary(x, 12));
        test.seen("hours", x -> x.hours(11));
        test.seen("more hours", x -> x.hours(13));
        test.seen("kind", x -> x.kind(5));
        test.seen("offer", x -> x.offer(0, 1, 1));
        test.seen("reprice", x -> x.reprice(2, 16));
        test.seen("need", x -> x.need(0, 1, 11, 2));
        test.seen("needs", x -> x.needs(2, 0, 4, 0x99999999));
        test.seen("buy", x -> x.buy(2, 11, 60));
        test.seen("clear", x -> x.clear(1));
        test.seen("blind", x -> x.blind(0));
        test.seen("image 0", x -> x.image(0));
        test.seen("image 2", x -> x.image(2));
        test.seen("again", x -> x.again(1));
    }

    private void seen(String change, Consumer<BoughtAhead> one) {
        DUE.no("as before after " + change, Told.after(calls.andThen(one)).isAs(before));
    }
}
