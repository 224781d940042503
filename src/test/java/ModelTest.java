import java.util.Random;

/** Runs of 512 calls, each answer held against the plain model's. */
public final class ModelTest {
    private static final Due DUE = new Due("ModelTest");
    private static final int[] ODD = {-1, 3, 4, 6, 40, 41, Integer.MIN_VALUE, Integer.MAX_VALUE, 1 << 30, -61, 61, 1001};

    private final Random random;
    private final boolean dear;
    private final BoughtAhead real = new BoughtAhead();
    private final PlainModel model = new PlainModel();

    private ModelTest(int seed) {
        random = new Random(seed);
        dear = seed % 2 == 0;
    }

    public static void main(String[] args) {
        for (int seed = 0; seed < 150; seed++) {
            ModelTest run = new ModelTest(seed);
            for (int call = 0; call < 512; call++) {
                run.call("run " + seed + ", call " + call + ", ", call);
            }
        }
        DUE.end();
    }

    /** A number below n; now and then one that is beside the mark. */
    private int below(int n) {
        return random.nextInt(40) == 0 ? ODD[random.nextInt(ODD.length)] : random.nextInt(n);
    }

    private int rate() {
        return below(dear ? 1001 : 13);
    }

    private int term() {
        return random.nextBoolean() ? 1 + below(8) : 1 + below(40);
    }

    /** About what a machine of the KIND costs by the hour, or less, so that OFFERS are worth while. */
    private int cost(int kind, int term) {
        long rate = Math.max(1, model.about(kind, 10));
        int hours = Math.max(1, Math.min(40, term));
        return below((int) Math.min(100001, rate * hours + 2));
    }

    private int eight() {
        int n = 0;
        int most = random.nextInt(10);
        for (int i = 0; i < 8; i++) {
            n = n << 4 | random.nextInt(most + 1);
        }
        return random.nextInt(20) == 0 ? random.nextInt() : n;
    }

    private void call(String name, int call) {
        int which = call < 12 ? random.nextInt(4) : random.nextInt(100);
        if (which < 12) {
            setUp(name, which);
        } else if (which < 45) {
            needAndPlan(name, which);
        } else if (which < 92) {
            answers(name, which);
        } else {
            int k = below(3);
            if (which < 96) {
                DUE.is(name + "image(" + k + ")", real.image(k) ? 1 : 0, model.image(k));
            } else {
                DUE.is(name + "again(" + k + ")", real.again(k) ? 1 : 0, model.again(k));
            }
        }
    }

    private void setUp(String name, int which) {
        int kind = below(3);
        int a = which == 0 ? 1 + below(40) : which == 1 ? rate() : term();
        if (which == 0) {
            DUE.is(name + "hours(" + a + ")", real.hours(a) ? 1 : 0, model.hours(a));
        } else if (which == 1) {
            DUE.is(name + "kind(" + a + ")", real.kind(a), model.kind(a));
        } else if (which < 5) {
            int cost = cost(kind, a);
            String call = "offer(" + kind + ", " + a + ", " + cost + ")";
            DUE.is(name + call, real.offer(kind, a, cost), model.offer(kind, a, cost));
        } else {
            int offer = below(6);
            int cost = cost((int) model.about(offer, 0), (int) model.about(offer, 1));
            String call = "reprice(" + offer + ", " + cost + ")";
            DUE.is(name + call, real.reprice(offer, cost) ? 1 : 0, model.reprice(offer, cost));
        }
    }

    private void needAndPlan(String name, int which) {
        int kind = below(3);
        int hour = below((int) model.count(0));
        int owner = below(4);
        if (which < 18) {
            int n = below(11);
            String call = "need(" + owner + ", " + kind + ", " + hour + ", " + n + ")";
            DUE.is(name + call, real.need(owner, kind, hour, n) ? 1 : 0, model.need(owner, kind, hour, n));
        } else if (which < 32) {
            int eight = eight();
            String call = "needs(" + owner + ", " + kind + ", " + hour + ", " + eight + ")";
            DUE.is(name + call, real.needs(owner, kind, hour, eight) ? 1 : 0, model.needs(owner, kind, hour, eight));
        } else if (which < 44) {
            int offer = below(6);
            int n = random.nextInt(4) == 0 ? below(62) : below(4);
            String call = "buy(" + offer + ", " + hour + ", " + n + ")";
            DUE.is(name + call, real.buy(offer, hour, n) ? 1 : 0, model.buy(offer, hour, n));
        } else {
            DUE.is(name + "clear(" + kind + ")", real.clear(kind) ? 1 : 0, model.clear(kind));
        }
    }

    private void answers(String name, int which) {
        int kind = below(3);
        int hour = below((int) model.count(0));
        int k = below(6);
        if (which < 54) {
            int what = below(27);
            String call = "tell(" + kind + ", " + hour + ", " + what + ")";
            DUE.is(name + call, real.tell(kind, hour, what), model.tell(kind, hour, what));
        } else if (which < 60) {
            int what = below(15);
            DUE.is(name + "about(" + k + ", " + what + ")", real.about(k, what), model.about(k, what));
        } else if (which < 62) {
            DUE.is(name + "count(" + k + ")", real.count(k), model.count(k));
        } else if (which < 65) {
            DUE.is(name + "blind(" + k + ")", real.blind(k), model.blind(k));
        } else if (which < 72) {
            DUE.is(name + "pays(" + k + ", " + kind + ")", real.pays(k, kind), model.pays(k, kind));
        } else if (which < 76) {
            DUE.is(name + "cost(" + kind + ")", real.cost(kind), model.cost(kind));
        } else if (which < 81) {
            DUE.is(name + "best(" + kind + ")", real.best(kind), model.best(kind));
        } else if (which < 87) {
            DUE.is(name + "price(" + kind + ", " + hour + ")", real.price(kind, hour), model.price(kind, hour));
        } else {
            int n = below(123) - 61;
            String call = "more(" + kind + ", " + hour + ", " + n + ")";
            DUE.is(name + call, real.more(kind, hour, n), model.more(kind, hour, n));
        }
    }
}
