import java.util.List;

/** Promise 9, read, and promise 10, next: how messages are put together, kept and dropped. */
final class PromiseReadAndNextTest {
    private static final Check CHECK = new Check();
    private static final int ADDRESS = 3;

    private PromiseReadAndNextTest() {
    }

    public static void main(String[] args) {
        oldestFirst();
        wrongNumbersAreRefused();
        longestMessage();
        seventhIsDropped();
        lengthByteOfZero();
        moreBytesThanItShould();
        beginDropsTheOneBeforeIt();
        bytesWithoutAMessage();
        messageOf255Bytes();
        CHECK.end();
    }

    private static void oldestFirst() {
        RadioPair x = new RadioPair(ADDRESS);
        for (int k = 0; k < 8; k++) {
            Steps.message(x, 0, 10 * k, 10 * k + 1);
            Steps.message(x, 1, 200 + k);
            Steps.passes(x, 2);
            if (k >= 3) {
                CHECK.due("oldest of device 1", x.read(1, 1), 10 * (k - 3) + 1);
                CHECK.due("its length", x.next(1), 2);
                CHECK.due("oldest of device 0", x.read(0, 0), 200 + k - 3);
                CHECK.due("its length", x.next(0), 1);
            }
        }
        for (int left = 3; left > 0; left--) {
            CHECK.due("left", x.state(1, 1), left);
            CHECK.due("next(1)", x.next(1), 2);
        }
        CHECK.due("no more: next(1)", x.next(1), RadioPair.REFUSED);
        CHECK.due("no more: read(1, 0)", x.read(1, 0), RadioPair.REFUSED);
    }

    private static void wrongNumbersAreRefused() {
        RadioPair x = new RadioPair(ADDRESS);
        Steps.message(x, 0, 1, 2, 3);
        Steps.pass(x);
        for (int i : new int[] {-1, 3, 4, Integer.MIN_VALUE, Integer.MAX_VALUE}) {
            CHECK.due("read(1, " + i + ")", x.read(1, i), RadioPair.REFUSED);
        }
        for (int device : new int[] {-1, 2, Integer.MIN_VALUE, Integer.MAX_VALUE}) {
            CHECK.due("read(" + device + ", 0)", x.read(device, 0), RadioPair.REFUSED);
            CHECK.due("next(" + device + ")", x.next(device), RadioPair.REFUSED);
        }
        CHECK.due("the sender took nothing", x.read(0, 0), RadioPair.REFUSED);
        CHECK.due("read(1, 2)", x.read(1, 2), 3);
        CHECK.due("next(1)", x.next(1), 3);
    }

    private static void longestMessage() {
        for (int k = 0; k < 2; k++) {
            RadioPair x = new RadioPair(ADDRESS);
            x.guard(0, k == 0);
            Steps.message(x, 0, Steps.counting(216, 40));
            int slots = k == 0 ? 9 : 7;
            Steps.passes(x, slots - 1);
            CHECK.due("not yet", x.state(1, 1), 0);
            CHECK.due("so far", x.state(1, 4), k == 0 ? 35 : 38);
            CHECK.due("the last part", Steps.pass(x), RadioPair.TAKEN);
            for (int i = 0; i < 40; i++) {
                CHECK.due("read(1, " + i + ")", x.read(1, i), 216 + i);
            }
            CHECK.due("next(1)", x.next(1), 40);
        }
    }

    private static void seventhIsDropped() {
        RadioPair x = new RadioPair(ADDRESS);
        for (int k = 1; k <= 8; k++) {
            Steps.message(x, 0, k);
            CHECK.due("message " + k, Steps.pass(x), RadioPair.TAKEN);
            Steps.pass(x);
            CHECK.due("taken", x.state(1, 1), Math.min(k, 6));
            CHECK.due("dropped", x.state(1, 5), Math.max(k - 6, 0));
            CHECK.due("none being put together", x.state(1, 4), 0);
        }
        CHECK.due("next(1)", x.next(1), 1);
        Steps.message(x, 0, 9);
        Steps.pass(x);
        for (int want : new int[] {2, 3, 4, 5, 6, 9}) {
            CHECK.due("in order", x.read(1, 0), want);
            x.next(1);
        }
        CHECK.due("dropped by the one who took", x.state(0, 5), 0);
    }

    /** Lets device 0 send `sent` and device 1 take another load of the same frame; both plain. */
    private static int swap(RadioPair x, int turn, List<Integer> sent, List<Integer> other) {
        int clock = x.count(0);
        x.slot();
        List<Integer> head = Wire.head(ADDRESS, 4, 1, 0, turn);
        Wire.forge(x, Wire.frame(head, sent, clock), Wire.frame(head, other, clock));
        int outcome = x.hear();
        Steps.pass(x);
        return outcome;
    }

    private static void lengthByteOfZero() {
        RadioPair x = Steps.plainLink(ADDRESS);
        Steps.message(x, 0, 7);
        CHECK.due("length 0, no more bytes", swap(x, 1, Wire.load(10, 1, 7), Wire.load(6, 0)), RadioPair.TAKEN);
        CHECK.due("it has all: taken", x.state(1, 1), 1);
        CHECK.due("read(1, 0)", x.read(1, 0), RadioPair.REFUSED);
        CHECK.due("next(1)", x.next(1), 0);
        CHECK.due("next(1) once more", x.next(1), RadioPair.REFUSED);
        Steps.message(x, 0, 7);
        CHECK.due("length 0, a byte more", swap(x, 0, Wire.load(10, 1, 7), Wire.load(10, 0, 7)), RadioPair.TAKEN);
        CHECK.due("it has more: dropped", x.state(1, 5), 1);
        CHECK.due("not taken", x.state(1, 1), 0);
    }

    private static void moreBytesThanItShould() {
        RadioPair x = Steps.plainLink(ADDRESS);
        Steps.message(x, 0, 7, 8);
        CHECK.due("length 1, two bytes", swap(x, 1, Wire.load(14, 2, 7, 8), Wire.load(14, 1, 7, 8)), RadioPair.TAKEN);
        CHECK.due("dropped", x.state(1, 5), 1);
        CHECK.due("none being put together", x.state(1, 4), 0);
        Steps.message(x, 0, 7, 8);
        swap(x, 0, Wire.load(14, 2, 7, 8), Wire.load(14, 3, 7, 8));
        CHECK.due("length 3, two bytes", x.state(1, 4), 2);
        Steps.message(x, 0, 9);
        swap(x, 1, Wire.load(10, 1, 9), Wire.load(9, 1, 9));
        CHECK.due("two more: dropped", x.state(1, 5), 2);
        CHECK.due("not taken", x.state(1, 1), 0);
        CHECK.due("none being put together", x.state(1, 4), 0);
    }

    private static void beginDropsTheOneBeforeIt() {
        RadioPair x = Steps.plainLink(ADDRESS);
        Steps.message(x, 0, 7, 8);
        swap(x, 1, Wire.load(14, 2, 7, 8), Wire.load(14, 9, 7, 8));
        CHECK.due("two of nine", x.state(1, 4), 2);
        Steps.message(x, 0, 5);
        Steps.pass(x);
        CHECK.due("dropped", x.state(1, 5), 1);
        CHECK.due("the new one is taken", x.read(1, 0), 5);
        CHECK.due("alone", x.next(1), 1);
    }

    private static void bytesWithoutAMessage() {
        RadioPair x = Steps.plainLink(ADDRESS);
        Steps.message(x, 0, 7, 8);
        CHECK.due("no begin mark", swap(x, 1, Wire.load(14, 2, 7, 8), Wire.load(13, 2, 7, 8)), RadioPair.TAKEN);
        CHECK.due("nothing is put together", x.state(1, 4), 0);
        CHECK.due("nothing is taken", x.state(1, 1), 0);
        CHECK.due("bytes are no message that is dropped", x.state(1, 5), 0);
        CHECK.due("acknowledged all the same", x.state(0, 3), 0);
        Steps.message(x, 0, 5);
        Steps.pass(x);
        CHECK.due("the next one is taken", x.next(1), 1);
    }

    /** A length byte forged to 255, and begin marks taken away from what follows. */
    private static void messageOf255Bytes() {
        RadioPair x = Steps.plainLink(ADDRESS);
        for (int k = 0; k < 7; k++) {
            int[] bytes = Steps.counting(40 * k / 2, k < 6 ? 40 : 9);
            int first = Math.min(12, bytes.length);
            int[] load = new int[first + 1];
            System.arraycopy(bytes, 0, load, 1, first);
            load[0] = bytes.length;
            Steps.message(x, 0, bytes);
            List<Integer> sent = Wire.load(4 * load.length + 2, load);
            load[0] = k == 0 ? 255 : bytes.length;
            swap(x, 1, sent, Wire.load(4 * load.length + (k == 0 ? 2 : 1), load));
            // Four frames to a message of 40, so that each begins with the same turn bit.
            Steps.passes(x, k < 6 ? 6 : 0);
            CHECK.due("so far", x.state(1, 4), k < 6 ? 40 + 41 * k : 0);
        }
        CHECK.due("taken", x.state(1, 1), 1);
        CHECK.due("first", x.read(1, 0), 0);
        CHECK.due("the second length byte", x.read(1, 40), 40);
        CHECK.due("last", x.read(1, 254), 128);
        CHECK.due("next(1)", x.next(1), 255);
    }
}
