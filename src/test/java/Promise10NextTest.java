/** Promise 10: next. */
final class Promise10NextTest {
    private static final Check CHECK = new Check("Promise 10");

    private Promise10NextTest() {
    }

    public static void main(String[] args) {
        theOldestIsGone();
        answersItsLength();
        noMessage();
        CHECK.end();
    }

    private static void theOldestIsGone() {
        CHECK.sentence("The oldest message taken is gone:");
        Link x = new Link(3);
        for (int k = 1; k <= 6; k++) {
            x.message(0, k);
        }
        x.message(1, 50);
        x.passes(12);
        for (int k = 1; k <= 6; k++) {
            CHECK.due("taken", x.state(1, 1), 7 - k);
            CHECK.due("the oldest", x.read(1, 0), k);
            x.next(1);
        }
        CHECK.due("none is left", x.state(1, 1), 0);
        CHECK.due("the other device's stays", x.read(0, 0), 50);
        x.message(0, 7);
        x.passes(2);
        CHECK.due("a place that was left is used again", x.read(1, 0), 7);
        CHECK.due("a message that is gone is not dropped", x.state(1, 5), 0);
    }

    private static void answersItsLength() {
        CHECK.sentence("its length;");
        Link x = Link.plain(3);
        int[] sizes = {1, 40, 2, 13, 12};
        for (int size : sizes) {
            x.message(0, Link.counting(0, size));
        }
        x.passes(20);
        for (int size : sizes) {
            CHECK.due("next(1)", x.next(1), size);
        }
        for (int size : sizes) {
            x.message(1, Link.counting(0, size));
        }
        x.passes(20);
        for (int size : sizes) {
            CHECK.due("next(0)", x.next(0), size);
        }
    }

    private static void noMessage() {
        CHECK.sentence("REFUSED if there is none.");
        Link x = new Link(3);
        CHECK.due("none was ever taken: next(0)", x.next(0), RadioPair.REFUSED);
        CHECK.due("none was ever taken: next(1)", x.next(1), RadioPair.REFUSED);
        x.message(0, Link.counting(0, 12));
        x.pass();
        CHECK.due("one is being put together", x.next(1), RadioPair.REFUSED);
        CHECK.due("and goes on being so", x.state(1, 4), 8);
        x.passes(2);
        CHECK.due("the sender has none", x.next(0), RadioPair.REFUSED);
        for (int device : new int[] {-1, 2, Integer.MIN_VALUE, Integer.MAX_VALUE}) {
            CHECK.due("next(" + device + ")", x.next(device), RadioPair.REFUSED);
        }
        CHECK.due("it is there", x.next(1), 12);
        CHECK.due("then no more", x.next(1), RadioPair.REFUSED);
    }
}
