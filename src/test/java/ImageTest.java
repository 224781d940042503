/** Promises 19 and 20: images of all that is told. */
public final class ImageTest {
    private static final Due DUE = new Due("ImageTest");

    public static void main(String[] args) {
        refused();
        allThatIsTold();
        imagesStay();
        nothingRemains();
        hoursComeBack();
        otherKindsInstead();
        DUE.end();
    }

    private static void refused() {
        BoughtAhead x = new BoughtAhead();
        for (int k : new int[] {-1, 3, Integer.MIN_VALUE, Integer.MAX_VALUE}) {
            DUE.no("image(" + k + ")", x.image(k));
            DUE.no("again(" + k + ")", x.again(k));
        }
        DUE.yes("image(1)", x.image(1));
        DUE.no("again(0)", x.again(0));
        DUE.yes("again(1)", x.again(1));
        DUE.no("again(2)", x.again(2));
    }

    private static BoughtAhead filled() {
        BoughtAhead x = new BoughtAhead();
        x.hours(9);
        x.kind(10);
        x.kind(20);
        x.offer(0, 3, 20);
        x.offer(1, 4, 30);
        x.needs(2, 1, 1, 0x12345678);
        x.need(3, 0, 8, 6);
        x.buy(1, 4, 5);
        x.buy(0, 8, 2);
        return x;
    }

    private static void isFilled(String when, BoughtAhead x) {
        DUE.is(when + ": HOURS", x.count(0), 9);
        DUE.is(when + ": KINDS", x.count(1), 2);
        DUE.is(when + ": OFFERS", x.count(2), 2);
        DUE.is(when + ": RATE", x.about(0, 10), 10);
        DUE.is(when + ": RATE", x.about(1, 10), 20);
        DUE.is(when + ": KIND of an OFFER", x.about(1, 0), 1);
        DUE.is(when + ": TERM", x.about(0, 1), 3);
        DUE.is(when + ": COST", x.about(0, 2), 20);
        DUE.is(when + ": COST", x.about(1, 2), 30);
        DUE.is(when + ": NEED", x.about(1, 12), 36);
        DUE.is(when + ": NEED", x.tell(1, 8, 12), 8);
        DUE.is(when + ": NEED", x.tell(0, 8, 13), 6);
        DUE.is(when + ": PLAN", x.tell(1, 4, 21), 5);
        DUE.is(when + ": PLAN", x.tell(0, 8, 20), 2);
        DUE.is(when + ": PLAN", x.about(1, 3), 5);
        DUE.is(when + ": cost", x.cost(0), 2 * 20 + 4 * 10);
        DUE.is(when + ": best", x.best(0), 6 * 10);
    }

    private static void changeAll(BoughtAhead x) {
        x.hours(4);
        x.hours(30);
        x.kind(30);
        x.offer(2, 7, 70);
        x.reprice(0, 1);
        x.reprice(1, 2);
        x.needs(2, 1, 1, 0);
        x.need(0, 0, 3, 1);
        x.blind(1);
        x.buy(0, 2, 9);
    }

    private static void allThatIsTold() {
        BoughtAhead x = filled();
        DUE.yes("image(0)", x.image(0));
        isFilled("as it is", x);
        changeAll(x);
        DUE.is("HOURS before again", x.count(0), 30);
        DUE.yes("again(0)", x.again(0));
        isFilled("again", x);
        changeAll(x);
        DUE.yes("again(0), twice", x.again(0));
        isFilled("again, twice", x);
    }

    private static void imagesStay() {
        BoughtAhead x = new BoughtAhead();
        x.kind(1);
        for (int k = 0; k < 3; k++) {
            x.hours(k + 1);
            DUE.yes("image " + k, x.image(k));
        }
        for (int k : new int[] {1, 0, 2, 2, 0}) {
            DUE.yes("again " + k, x.again(k));
            DUE.is("HOURS of image " + k, x.count(0), k + 1);
        }
        x.hours(40);
        DUE.yes("image 1 anew", x.image(1));
        x.again(0);
        DUE.is("image 0 stays", x.count(0), 1);
        x.again(1);
        DUE.is("image 1 is the new one", x.count(0), 40);
        x.again(2);
        DUE.is("image 2 stays", x.count(0), 3);
    }

    /** A KIND and an OFFER that come after an image was taken leave nothing for those that come instead. */
    private static void nothingRemains() {
        BoughtAhead x = new BoughtAhead();
        x.image(0);
        x.kind(10);
        x.offer(0, 5, 5);
        x.need(0, 0, 3, 9);
        x.buy(0, 3, 9);
        x.again(0);
        DUE.is("no KIND", x.tell(0, 3, 0), -1);
        DUE.is("no OFFER", x.about(0, 3), -1);
        DUE.is("a KIND", x.kind(20), 0);
        DUE.is("an OFFER", x.offer(0, 6, 6), 0);
        DUE.is("its RATE", x.about(0, 10), 20);
        DUE.is("its NEED", x.tell(0, 3, 0), 0);
        DUE.is("its PLAN", x.about(0, 3), 0);
        DUE.is("its cost", x.cost(0), 0);
    }

    private static void hoursComeBack() {
        BoughtAhead x = filled();
        x.image(2);
        x.hours(1);
        x.again(2);
        isFilled("HOURS come back with an image", x);
        x.hours(40);
        DUE.is("no NEED beyond them", x.tell(1, 9, 0), 0);
        DUE.is("an OFFER is there beyond them", x.tell(0, 10, 1), 2);
    }

    /** Two images with other KINDS and OFFERS under the same numbers. */
    private static void otherKindsInstead() {
        BoughtAhead x = new BoughtAhead();
        x.image(1);
        x.kind(5);
        x.kind(6);
        x.offer(1, 7, 8);
        x.image(0);
        x.again(1);
        x.kind(50);
        x.kind(60);
        x.offer(0, 70, 80);
        x.offer(0, 30, 80);
        x.image(1);
        DUE.yes("again(0)", x.again(0));
        DUE.is("RATE 0", x.about(0, 10), 5);
        DUE.is("RATE 1", x.about(1, 10), 6);
        DUE.is("KIND", x.about(0, 0), 1);
        DUE.is("TERM", x.about(0, 1), 7);
        DUE.is("COST", x.about(0, 2), 8);
        DUE.yes("again(1)", x.again(1));
        DUE.is("RATE 0", x.about(0, 10), 50);
        DUE.is("KIND", x.about(0, 0), 0);
        DUE.is("TERM", x.about(0, 1), 30);
        DUE.is("COST", x.about(0, 2), 80);
    }
}
