import java.util.ArrayList;
import java.util.Arrays;
import java.util.List;
import java.util.function.Consumer;
import java.util.function.ToLongFunction;

/**
 * All that is told after a run of calls: as it is, as each image has it, and once all HOURS, KINDS and
 * OFFERS have come that may come, so that what lies hidden is seen too. The run is made anew for every
 * hundred questions or so: an object is used for at most 512 calls.
 */
final class Told {
    private static final int AT_ONCE = 150;
    private static final List<ToLongFunction<BoughtAhead>> VIEWS = List.of(
            x -> 0,
            x -> x.again(0) ? 1 : 0,
            x -> x.again(1) ? 1 : 0,
            x -> x.again(2) ? 1 : 0,
            Told::grown);
    private static final List<ToLongFunction<BoughtAhead>> QUESTIONS = questions();

    private final long[] answers;

    private Told(long[] answers) {
        this.answers = answers;
    }

    static Told after(Consumer<BoughtAhead> calls) {
        long[] row = new long[VIEWS.size() * QUESTIONS.size()];
        int place = 0;
        BoughtAhead x = null;
        for (ToLongFunction<BoughtAhead> view : VIEWS) {
            for (int i = 0; i < QUESTIONS.size(); i++) {
                if (i % AT_ONCE == 0) {
                    x = new BoughtAhead();
                    calls.accept(x);
                    row[place] = view.applyAsLong(x) << 40;
                }
                row[place++] += QUESTIONS.get(i).applyAsLong(x);
            }
        }
        return new Told(row);
    }

    boolean isAs(Told other) {
        return Arrays.equals(answers, other.answers);
    }

    /** Of all views the second to the fourth are those of images. */
    boolean hasImagesAs(Told other) {
        int from = QUESTIONS.size();
        int end = 4 * QUESTIONS.size();
        return Arrays.equals(answers, from, end, other.answers, from, end);
    }

    private static long grown(BoughtAhead x) {
        x.hours(40);
        long numbers = 0;
        for (int i = 0; i < 3; i++) {
            numbers = numbers * 8 + x.kind(1000) + 1;
        }
        for (int i = 0; i < 6; i++) {
            numbers = numbers * 8 + x.offer(i % 3, 40, 100) + 1;
        }
        return numbers;
    }

    private static List<ToLongFunction<BoughtAhead>> questions() {
        List<ToLongFunction<BoughtAhead>> list = new ArrayList<>();
        for (int what = 0; what < 3; what++) {
            int w = what;
            list.add(x -> x.count(w));
        }
        for (int offer = 0; offer < 6; offer++) {
            for (int what = 0; what < 4; what++) {
                int o = offer;
                int w = what;
                list.add(x -> x.about(o, w));
            }
        }
        for (int kind = 0; kind < 3; kind++) {
            addThoseOf(kind, list);
        }
        return list;
    }

    private static void addThoseOf(int kind, List<ToLongFunction<BoughtAhead>> list) {
        for (int what = 10; what < 14; what++) {
            int w = what;
            list.add(x -> x.about(kind, w));
            list.add(x -> x.pays(w - 10, kind));
        }
        for (int what : new int[] {0, 1, 2, 3, 10, 11, 12, 13, 20, 21, 22, 23, 24, 25}) {
            for (int hour = 0; hour < 40; hour++) {
                int h = hour;
                list.add(x -> x.tell(kind, h, what));
            }
        }
        list.add(x -> x.cost(kind));
        list.add(x -> x.best(kind));
        list.add(x -> x.price(kind, 0));
        list.add(x -> x.more(kind, 0, 1));
    }
}
