import java.util.List;

/** Terms, from "When a frame that is not LOST is taken": what a device does with it (promises 8 to 11). */
final class TermsUsingTest {
    private static final Check CHECK = new Check("Terms");
    private static final int ADDRESS = 3;
    private static final List<Integer> NOTHING = List.of(0, 0, 0, 0, 0, 0, 0, 0, 0, 0);

    private TermsUsingTest() {
    }

    public static void main(String[] args) {
        notLostIsHeard();
        ackBitAcknowledges();
        goodIfNotBad();
        turnBitOfTheLastLoad();
        beginMarkDropsAndBegins();
        lengthByteOfZero();
        withoutBeginMark();
        bytesWithoutAMessage();
        moreBytesThanItShould();
        takenWhenItHasAll();
        droppedIfThereAreSix();
        longestMessage();
        CHECK.end();
    }

    /** Device 0, plain, sends `sent` with this turn bit; device 1 takes another load in its place. */
    private static int swap(Link x, int clock, int turn, List<Integer> sent, List<Integer> other) {
        x.slot();
        List<Integer> head = Wire.head(ADDRESS, 4, 1, 0, turn);
        x.forge(Wire.frame(head, sent, clock), Wire.frame(head, other, clock));
        return x.hear();
    }

    /** Lets device 1 take each of these loads, as new ones, in the place of one of bytes 2, 7, 8. */
    private static Link takes(List<List<Integer>> loads) {
        Link x = Link.plain(ADDRESS);
        for (int k = 0; k < loads.size(); k++) {
            x.message(0, 7, 8);
            CHECK.due("load " + k, swap(x, 2 * k, 1 - k % 2, Wire.load(14, 2, 7, 8), loads.get(k)), RadioPair.TAKEN);
            x.pass();
        }
        return x;
    }

    private static void notLostIsHeard() {
        CHECK.sentence("When a frame that is not LOST is taken: HEARD is true.");
        Link poll = new Link(ADDRESS);
        poll.pass();
        CHECK.due("a poll", poll.state(1, 9), 1);
        CHECK.due("not of the one who spoke", poll.state(0, 9), 0);
        poll.pass();
        CHECK.due("an idle", poll.state(0, 9), 1);
        Link load = new Link(ADDRESS);
        load.message(0, 1);
        load.pass();
        CHECK.due("a load", load.state(1, 9), 1);
        load.slot();
        load.pass();
        CHECK.due("a load again", load.state(1, 9), 1);
        Link bad = Link.plain(ADDRESS);
        bad.message(0, 1);
        bad.slot();
        bad.flip(60);
        bad.hear();
        CHECK.due("a bad load", bad.state(1, 9), 1);
        Link lost = new Link(ADDRESS);
        lost.message(0, 1);
        lost.slot();
        lost.flips(0, 1);
        CHECK.due("lost", lost.hear(), RadioPair.LOST);
        CHECK.same("nothing of device 1 has changed", lost.states(1), NOTHING);
    }

    private static void ackBitAcknowledges() {
        CHECK.sentence("If its ack bit is 1, the device's frame that is not acknowledged, if any, is acknowledged.");
        Link x = new Link(ADDRESS);
        x.message(0, 1);
        x.pass();
        x.slot();
        CHECK.due("before the answer is heard", x.state(0, 3), 2);
        x.hear();
        CHECK.due("an idle with ack 1", x.state(0, 3), 0);
        x.message(0, 2);
        x.slot();
        x.flips(0, 1);
        x.hear();
        x.slot();
        x.slot();
        x.hear();
        x.slot();
        x.forge(Wire.bare(ADDRESS, 2, 1, 0, 5), Wire.bare(ADDRESS, 2, 0, 0, 5));
        CHECK.due("an idle, its ack bit forged to 0", x.hear(), RadioPair.HEAD);
        CHECK.due("not acknowledged", x.state(0, 3), 2);
        Link bad = Link.plain(ADDRESS);
        bad.message(0, 1);
        bad.message(1, 2);
        bad.pass();
        bad.slot();
        bad.flip(60);
        CHECK.due("a bad load with ack 1", bad.hear(), RadioPair.BAD);
        CHECK.due("acknowledged all the same", bad.state(0, 3), 0);
        Link lost = Link.plain(ADDRESS);
        lost.message(0, 1);
        lost.pass();
        lost.slot();
        lost.flips(0, 1);
        CHECK.due("lost, with ack 1", lost.hear(), RadioPair.LOST);
        CHECK.due("not acknowledged", lost.state(0, 3), 2);
        Link none = new Link(ADDRESS);
        none.slot();
        none.forge(Wire.bare(ADDRESS, 1, 0, 0, 0), Wire.bare(ADDRESS, 1, 1, 0, 0));
        CHECK.due("ack 1 with no frame to acknowledge", none.hear(), RadioPair.HEAD);
        CHECK.same("nothing but HEARD", none.states(1), List.of(0, 0, 0, 0, 0, 0, 0, 0, 0, 1));
    }

    private static void goodIfNotBad() {
        CHECK.sentence("If it has a load that is not BAD: GOOD is true,");
        Link x = Link.plain(ADDRESS);
        x.pass();
        CHECK.due("a poll has no load", x.state(1, 8), 0);
        x.slot();
        x.message(0, 1);
        x.slot();
        x.flip(60);
        CHECK.due("a bad load", x.hear(), RadioPair.BAD);
        CHECK.due("is not GOOD", x.state(1, 8), 0);
        x.slot();
        CHECK.due("a new load", x.pass(), RadioPair.TAKEN);
        CHECK.due("is GOOD", x.state(1, 8), 1);
        x.slot();
        CHECK.due("a load again", x.pass(), RadioPair.AGAIN);
        CHECK.due("is GOOD too", x.state(1, 8), 1);
    }

    private static void turnBitOfTheLastLoad() {
        CHECK.sentence("and if its turn bit is not that of the last load taken, it is that now, and the bytes are used:");
        Link x = new Link(ADDRESS);
        x.message(0, 1);
        CHECK.due("turn bit 1 behind 0", x.pass(), RadioPair.TAKEN);
        x.slot();
        CHECK.due("turn bit 1 behind 1", x.pass(), RadioPair.AGAIN);
        CHECK.due("used once", x.state(1, 1), 1);
        x.pass();
        x.message(0, 1);
        CHECK.due("turn bit 0 behind 1", x.pass(), RadioPair.TAKEN);
        CHECK.due("used too", x.state(1, 1), 2);
        x.slot();
        CHECK.due("turn bit 0 behind 0", x.pass(), RadioPair.AGAIN);
        // Bare frames and bad loads have turn bits too, which count for nothing here.
        Link bare = new Link(ADDRESS);
        bare.slot();
        bare.forge(Wire.bare(ADDRESS, 1, 0, 0, 0), Wire.bare(ADDRESS, 1, 0, 1, 0));
        CHECK.due("a poll with turn bit 1", bare.hear(), RadioPair.HEAD);
        bare.slot();
        bare.message(0, 1);
        CHECK.due("turn bit 1 behind it", bare.pass(), RadioPair.TAKEN);
        Link bad = Link.plain(ADDRESS);
        bad.message(0, 1);
        bad.slot();
        bad.flip(60);
        CHECK.due("a bad load with turn bit 1", bad.hear(), RadioPair.BAD);
        bad.slot();
        CHECK.due("turn bit 1 behind it", bad.pass(), RadioPair.TAKEN);
    }

    private static void beginMarkDropsAndBegins() {
        CHECK.sentence("with the begin mark, a message being put together is dropped, and a new one begins, of as many "
            + "bytes as the first byte says (the other bytes belong to it);");
        Link x = takes(List.of(Wire.load(14, 9, 7, 8)));
        CHECK.due("two of nine", x.state(1, 4), 2);
        CHECK.due("dropped", x.state(1, 5), 0);
        x = takes(List.of(Wire.load(14, 9, 7, 8), Wire.load(14, 3, 5, 6)));
        CHECK.due("a second beginning: the first is dropped", x.state(1, 5), 1);
        CHECK.due("two of three", x.state(1, 4), 2);
        x = takes(List.of(Wire.load(14, 9, 7, 8), Wire.load(10, 1, 5)));
        CHECK.due("a second beginning that has all", x.state(1, 5), 1);
        CHECK.due("is taken", x.read(1, 0), 5);
        CHECK.due("alone", x.next(1), 1);
        x = takes(List.of(Wire.load(6, 9)));
        CHECK.due("the length byte alone: none so far", x.state(1, 4), 0);
        x = takes(List.of(Wire.load(6, 9), Wire.load(6, 2)));
        CHECK.due("though it had no bytes, it is dropped", x.state(1, 5), 1);
        x = takes(List.of(Wire.load(14, 2, 7, 8), Wire.load(14, 2, 5, 6)));
        CHECK.due("a beginning behind an end drops nothing", x.state(1, 5), 0);
        CHECK.due("both are taken", x.state(1, 1), 2);
    }

    private static void lengthByteOfZero() {
        CHECK.sentence("of as many bytes as the first byte says");
        Link x = takes(List.of(Wire.load(6, 0)));
        CHECK.due("none: it has all", x.state(1, 1), 1);
        CHECK.due("read(1, 0)", x.read(1, 0), RadioPair.REFUSED);
        CHECK.due("next(1)", x.next(1), 0);
        CHECK.due("next(1) once more", x.next(1), RadioPair.REFUSED);
        x = takes(List.of(Wire.load(10, 0, 7)));
        CHECK.due("none, and a byte too many: dropped", x.state(1, 5), 1);
        CHECK.due("not taken", x.state(1, 1), 0);
        x = takes(List.of(Wire.load(14, 255, 7, 8)));
        CHECK.due("two of 255", x.state(1, 4), 2);
    }

    private static void withoutBeginMark() {
        CHECK.sentence("without it they belong to the message being put together;");
        Link x = takes(List.of(Wire.load(14, 5, 1, 2), Wire.load(9, 3, 4)));
        CHECK.due("four of five", x.state(1, 4), 4);
        x = takes(List.of(Wire.load(14, 5, 1, 2), Wire.load(9, 3, 4), Wire.load(5, 5)));
        for (int i = 0; i < 5; i++) {
            CHECK.due("read(1, " + i + ")", x.read(1, i), i + 1);
        }
        CHECK.due("next(1)", x.next(1), 5);
        x = takes(List.of(Wire.load(6, 1), Wire.load(5, 77)));
        CHECK.due("the length byte alone, then all", x.read(1, 0), 77);
    }

    private static void bytesWithoutAMessage() {
        CHECK.sentence("without one they are dropped.");
        Link x = takes(List.of(Wire.load(13, 2, 7, 8)));
        CHECK.due("none is being put together", x.state(1, 4), 0);
        CHECK.due("none is taken", x.state(1, 1), 0);
        CHECK.due("bytes are no message", x.state(1, 5), 0);
        CHECK.due("acknowledged all the same", x.state(0, 3), 0);
        x = takes(List.of(Wire.load(14, 1, 7, 8), Wire.load(13, 2, 7, 8), Wire.load(10, 1, 4)));
        CHECK.due("behind a dropped message: one dropped", x.state(1, 5), 1);
        CHECK.due("then the next one", x.read(1, 0), 4);
        x = takes(List.of(Wire.load(14, 2, 7, 8), Wire.load(13, 2, 7, 8)));
        CHECK.due("behind a taken message: it stays as it is", x.next(1), 2);
        CHECK.due("and is alone", x.next(1), RadioPair.REFUSED);
    }

    private static void moreBytesThanItShould() {
        CHECK.sentence("When a message has more bytes than it should, it is dropped;");
        Link x = takes(List.of(Wire.load(14, 1, 7, 8)));
        CHECK.due("two of one", x.state(1, 5), 1);
        CHECK.due("none is taken", x.state(1, 1), 0);
        CHECK.due("none is being put together", x.state(1, 4), 0);
        x = takes(List.of(Wire.load(14, 3, 7, 8), Wire.load(9, 1, 9)));
        CHECK.due("four of three", x.state(1, 5), 1);
        CHECK.due("none is taken", x.state(1, 1), 0);
        CHECK.due("none is being put together", x.state(1, 4), 0);
        x = takes(List.of(Wire.load(14, 3, 7, 8), Wire.load(9, 1, 9), Wire.load(14, 2, 5, 6)));
        CHECK.due("the next one drops nothing", x.state(1, 5), 1);
        CHECK.due("and is taken", x.next(1), 2);
    }

    private static void takenWhenItHasAll() {
        CHECK.sentence("when it has all, it is taken: at the end of the row of messages taken,");
        for (int k = 0; k < 2; k++) {
            int most = k == 0 ? 9 : 13;
            // The last frame is full, lacks one byte, or has just one.
            for (int size : new int[] {1, most - 2, most - 1, most, 2 * most - 2, 2 * most - 1, 2 * most, 40}) {
                Link x = new Link(ADDRESS);
                x.guard(0, k == 0);
                x.message(0, Link.counting(200, size));
                int frames = (size + most) / most;
                for (int f = 1; f < frames; f++) {
                    x.passes(2);
                    CHECK.due("not yet", x.state(1, 1), 0);
                }
                x.pass();
                CHECK.due("a message of " + size, x.state(1, 1), 1);
                CHECK.due("its last byte", x.read(1, size - 1), 199 + size);
                CHECK.due("its length", x.next(1), size);
            }
        }
        Link x = new Link(ADDRESS);
        for (int b = 1; b <= 5; b++) {
            x.message(0, b);
        }
        x.passes(10);
        for (int b = 1; b <= 5; b++) {
            CHECK.due("in the order they came", x.read(1, 0), b);
            x.next(1);
        }
    }

    private static void droppedIfThereAreSix() {
        CHECK.sentence("or dropped if there are 6.");
        Link x = new Link(ADDRESS);
        for (int k = 1; k <= 8; k++) {
            x.message(0, k);
            CHECK.due("message " + k, x.pass(), RadioPair.TAKEN);
            x.pass();
            CHECK.due("taken", x.state(1, 1), Math.min(k, 6));
            CHECK.due("dropped", x.state(1, 5), Math.max(k - 6, 0));
            CHECK.due("none being put together", x.state(1, 4), 0);
            CHECK.due("acknowledged", x.state(0, 3), 0);
        }
        CHECK.due("dropped by the one who took", x.state(0, 5), 0);
        x.next(1);
        x.message(0, 9);
        x.pass();
        for (int want : new int[] {2, 3, 4, 5, 6, 9}) {
            CHECK.due("in order, with room again", x.read(1, 0), want);
            x.next(1);
        }
        Link late = new Link(ADDRESS);
        for (int k = 1; k <= 6; k++) {
            late.message(0, k);
        }
        late.passes(12);
        late.message(0, Link.counting(0, 12));
        late.passes(2);
        CHECK.due("a seventh is put together", late.state(1, 4), 8);
        late.next(1);
        late.pass();
        CHECK.due("room came before its end", late.state(1, 1), 6);
        CHECK.due("dropped", late.state(1, 5), 0);
    }

    /** A length byte forged to 255, and begin marks taken away from what follows. */
    private static void longestMessage() {
        CHECK.sentence("of as many bytes as the first byte says (the other bytes belong to it);");
        Link x = Link.plain(ADDRESS);
        int clock = 0;
        for (int k = 0; k < 7; k++) {
            int[] bytes = Link.counting(20 * k, k < 6 ? 40 : 9);
            int first = Math.min(12, bytes.length);
            int[] load = new int[first + 1];
            System.arraycopy(bytes, 0, load, 1, first);
            load[0] = bytes.length;
            x.message(0, bytes);
            List<Integer> sent = Wire.load(4 * load.length + 2, load);
            load[0] = k == 0 ? 255 : bytes.length;
            swap(x, clock, 1, sent, Wire.load(4 * load.length + (k == 0 ? 2 : 1), load));
            // Four frames to a message of 40, so that each begins with the same turn bit.
            x.passes(k < 6 ? 7 : 0);
            clock += 8;
        }
        CHECK.due("255 bytes are taken", x.state(1, 1), 1);
        CHECK.due("first", x.read(1, 0), 0);
        CHECK.due("the second length byte", x.read(1, 40), 40);
        CHECK.due("last", x.read(1, 254), 128);
        CHECK.due("none behind it", x.read(1, 255), RadioPair.REFUSED);
        CHECK.due("next(1)", x.next(1), 255);
    }
}
