import java.util.List;

/** Terms, DEVICES and To SPEAK: what a device says when its slot comes (promises 4, 5 and 11). */
final class TermsSpeakingTest {
    private static final Check CHECK = new Check("Terms");
    private static final int ADDRESS = 4;
    private static final List<Integer> NOTHING = List.of(0, 0, 0, 0, 0, 0, 0, 0, 0, 0);

    private TermsSpeakingTest() {
    }

    public static void main(String[] args) {
        devicesAtFirst();
        rowsHaveSix();
        deviceOneMustHaveHeard();
        unacknowledgedComesAgain();
        ackBitOfAFrameSentAgain();
        atMostNineOrThirteen();
        newFrameTurnsTheBit();
        lengthFirstAndOneMessageOnly();
        bareFramesKeepTheTurnBit();
        ackBitIsGood();
        spokenIsNeitherGoodNorHeard();
        CHECK.end();
    }

    private static void devicesAtFirst() {
        CHECK.sentence("the one it is sending, a frame that is not acknowledged or none, its turn bit (0 at first), the "
            + "turn bit of the last load taken (0 at first), GOOD (false at first), HEARD (false),");
        Link x = new Link(ADDRESS);
        CHECK.same("device 0", x.states(0), NOTHING);
        CHECK.same("device 1", x.states(1), NOTHING);
        for (int device = 0; device < 2; device++) {
            // A first load with turn bit 0 has the turn bit of the last load, though there was none.
            Link y = Link.plain(ADDRESS);
            y.reach(device);
            y.message(device, 7, 9);
            y.slot();
            y.forge(Wire.headOnAir(Wire.head(ADDRESS, 4, 1, 0, 1), device),
                Wire.headOnAir(Wire.head(ADDRESS, 4, 1, 0, 0), device));
            CHECK.due("a first load of device " + device + " with turn bit 0", y.hear(), RadioPair.AGAIN);
            CHECK.due("nothing is taken", y.state(1 - device, 1), 0);
        }
    }

    private static void rowsHaveSix() {
        CHECK.sentence("DEVICES 0, 1. A device has a row of messages to send (at most 6),");
        for (int device = 0; device < 2; device++) {
            Link x = new Link(ADDRESS);
            for (int k = 1; k <= 6; k++) {
                CHECK.due("message " + k, x.message(device, k), k);
            }
            CHECK.due("message 7", x.message(device, 7), RadioPair.FULL);
            CHECK.due("messages to send", x.state(device, 0), 6);
        }
        CHECK.sentence("a row of messages taken (at most 6), and a message that is being put together or none.");
        for (int device = 0; device < 2; device++) {
            Link x = new Link(ADDRESS);
            x.message(device, Link.counting(0, 20));
            x.passes(device);
            CHECK.due("none is being put together", x.state(1 - device, 4), 0);
            x.pass();
            CHECK.due("one is being put together", x.state(1 - device, 4), 8);
            x.passes(4);
            CHECK.due("none any more", x.state(1 - device, 4), 0);
            for (int k = 1; k <= 8; k++) {
                CHECK.due("messages taken", x.state(1 - device, 1), Math.min(k, 6));
                x.message(device, k);
                x.passes(2);
            }
            CHECK.due("the long one is the oldest", x.next(1 - device), 20);
            CHECK.due("so there are five", x.state(1 - device, 1), 5);
        }
    }

    private static void deviceOneMustHaveHeard() {
        CHECK.sentence("To SPEAK: device 1 only if it has HEARD.");
        Link x = new Link(ADDRESS);
        x.message(1, 5);
        CHECK.due("device 0 polls, though it never heard", x.slot(), RadioPair.POLL);
        CHECK.due("unheard: device 1", x.slot(), RadioPair.SILENT);
        CHECK.due("no bits", x.count(1), 0);
        CHECK.due("its message waits", x.state(1, 0), 1);
        CHECK.due("its turn bit stays", x.state(1, 7), 0);
        CHECK.due("device 0 polls, though it heard nothing", x.slot(), RadioPair.POLL);
        x.flips(0, 1);
        CHECK.due("the poll is lost", x.hear(), RadioPair.LOST);
        CHECK.due("lost is not HEARD: device 1", x.slot(), RadioPair.SILENT);
        x.pass();
        CHECK.due("heard: device 1", x.slot(), RadioPair.GUARDED);
        x.slot();
        CHECK.due("unheard again: device 1", x.slot(), RadioPair.SILENT);
    }

    private static void unacknowledgedComesAgain() {
        CHECK.sentence("If there is a frame not acknowledged, that one again,");
        Link x = new Link(ADDRESS);
        x.message(0, 1, 2);
        x.message(0, 3);
        x.slot();
        x.slot();
        CHECK.due("unheard: again", x.slot(), RadioPair.GUARDED);
        CHECK.same("the same frame, with the new clock", x.bits(),
            Wire.frame(Wire.head(ADDRESS, 3, 1, 0, 1), Wire.load(14, 2, 1, 2), 2));
        CHECK.due("the next message waits", x.state(0, 0), 1);
        CHECK.due("taken", x.hear(), RadioPair.TAKEN);
        CHECK.due("the answer", x.slot(), RadioPair.IDLE);
        x.flips(0, 1);
        CHECK.due("is lost", x.hear(), RadioPair.LOST);
        CHECK.due("so again", x.slot(), RadioPair.GUARDED);
        CHECK.same("the same frame once more", x.bits(),
            Wire.frame(Wire.head(ADDRESS, 3, 1, 0, 1), Wire.load(14, 2, 1, 2), 4));
    }

    private static void ackBitOfAFrameSentAgain() {
        CHECK.sentence("with the ack bit as it is now.");
        Link x = new Link(ADDRESS);
        x.message(1, 3);
        x.pass();
        x.slot();
        CHECK.same("at first with ack 0", x.bits(), Wire.frame(Wire.head(ADDRESS, 3, 1, 0, 1), Wire.load(10, 1, 3), 1));
        x.message(0, 8);
        CHECK.due("device 1 takes a load", x.pass(), RadioPair.TAKEN);
        x.slot();
        CHECK.same("again with ack 1", x.bits(), Wire.frame(Wire.head(ADDRESS, 3, 1, 1, 1), Wire.load(10, 1, 3), 3));
        x.hear();
        CHECK.due("device 0 polls with ack 1", x.slot(), RadioPair.POLL);
        x.flips(0, 1);
        x.hear();
        x.slot();
        x.pass();
        x.slot();
        CHECK.same("again with ack 0", x.bits().subList(0, 54),
            Wire.headOnAir(Wire.head(ADDRESS, 3, 1, 0, 1), 7));
    }

    /** How many bytes the frames of a message have, one behind the other. */
    private static void framesOf(boolean guarded, int size, int... want) {
        Link x = new Link(ADDRESS);
        x.guard(0, guarded);
        x.message(0, Link.counting(0, size));
        int left = size + 1;
        for (int k = 0; k < want.length; k++) {
            CHECK.due("frame " + k + " of " + size, x.slot(), guarded ? RadioPair.GUARDED : RadioPair.PLAIN);
            left -= want[k];
            CHECK.due("its bytes", x.state(0, 3), want[k]);
            CHECK.due("bytes left", x.state(0, 2), left);
            x.hear();
            x.pass();
        }
        CHECK.due("no more frames of " + size, x.slot(), RadioPair.POLL);
    }

    private static void atMostNineOrThirteen() {
        CHECK.sentence("Else, if there is a message to send or one being sent with bytes left: the next bytes of it, at "
            + "most 9 if the device is guarded, else at most 13;");
        framesOf(true, 1, 2);
        framesOf(true, 7, 8);
        framesOf(true, 8, 9);
        framesOf(true, 9, 9, 1);
        framesOf(true, 17, 9, 9);
        framesOf(true, 18, 9, 9, 1);
        framesOf(true, 40, 9, 9, 9, 9, 5);
        framesOf(false, 1, 2);
        framesOf(false, 11, 12);
        framesOf(false, 12, 13);
        framesOf(false, 13, 13, 1);
        framesOf(false, 25, 13, 13);
        framesOf(false, 26, 13, 13, 1);
        framesOf(false, 40, 13, 13, 13, 2);
    }

    private static void newFrameTurnsTheBit() {
        CHECK.sentence("a new frame, not acknowledged, with the turn bit the other way round than before.");
        for (int device = 0; device < 2; device++) {
            Link x = new Link(ADDRESS);
            x.message(device, Link.counting(0, 20));
            x.message(device, 9);
            x.passes(device);
            for (int k = 1; k <= 4; k++) {
                x.slot();
                CHECK.due("turn bit of frame " + k, x.state(device, 7), k % 2);
                CHECK.due("not acknowledged", x.state(device, 3) > 0 ? 1 : 0, 1);
                int clock = device + 2 * (k - 1);
                List<Integer> head = Wire.head(ADDRESS, 3, 1, 0, k % 2);
                for (int i = 0; i < 18; i++) {
                    CHECK.due("head of frame " + k, x.air(3 * i), Wire.whitened(head, clock, 0).get(i));
                }
                CHECK.due("taken", x.hear(), RadioPair.TAKEN);
                x.pass();
            }
        }
    }

    private static void lengthFirstAndOneMessageOnly() {
        CHECK.sentence("(The bytes of a message on the air: its length, then its bytes; a frame has bytes of one message "
            + "only.)");
        Link x = Link.plain(ADDRESS);
        x.message(0, Link.counting(100, 13));
        x.message(0, 7, 8);
        x.slot();
        CHECK.same("length and twelve bytes", x.bits(), Wire.frame(Wire.head(ADDRESS, 4, 1, 0, 1),
            Wire.load(54, 13, 100, 101, 102, 103, 104, 105, 106, 107, 108, 109, 110, 111), 0));
        x.hear();
        x.pass();
        x.slot();
        CHECK.due("one byte, none of the next message", x.state(0, 3), 1);
        CHECK.same("the last byte", x.bits(), Wire.frame(Wire.head(ADDRESS, 4, 1, 0, 0), Wire.load(5, 112), 2));
        x.hear();
        x.pass();
        x.slot();
        CHECK.same("the next message", x.bits(), Wire.frame(Wire.head(ADDRESS, 4, 1, 0, 1), Wire.load(14, 2, 7, 8), 4));
        Link y = Link.plain(ADDRESS);
        y.message(0, Link.counting(0, 40));
        y.slot();
        CHECK.due("bit 5 of the length 40, behind number 54", y.air(54 + 13), 1 ^ Wire.white(0, 32).get(18 + 13));
    }

    private static void bareFramesKeepTheTurnBit() {
        CHECK.sentence("Else a POLL by device 0, an IDLE by device 1, with the turn bit as it is.");
        Link x = new Link(ADDRESS);
        x.slot();
        CHECK.same("a poll before any load", x.bits(), Wire.bare(ADDRESS, 1, 0, 0, 0));
        x.hear();
        x.slot();
        CHECK.same("an idle before any load", x.bits(), Wire.bare(ADDRESS, 2, 0, 0, 1));
        x.hear();
        x.message(0, 1);
        x.passes(2);
        x.slot();
        CHECK.same("a poll behind one load", x.bits(), Wire.bare(ADDRESS, 1, 0, 1, 4));
        x.hear();
        x.message(1, 1);
        x.passes(2);
        x.slot();
        CHECK.same("an idle behind one load", x.bits(), Wire.bare(ADDRESS, 2, 0, 1, 7));
        Link y = new Link(ADDRESS);
        y.message(0, 1);
        y.message(0, 2);
        y.passes(4);
        y.slot();
        CHECK.same("a poll behind two loads", y.bits(), Wire.bare(ADDRESS, 1, 0, 0, 4));
    }

    private static void ackBitIsGood() {
        CHECK.sentence("The ack bit is 1 if GOOD.");
        Link x = new Link(ADDRESS);
        x.message(0, 1);
        x.pass();
        CHECK.due("device 1 is GOOD", x.state(1, 8), 1);
        x.slot();
        CHECK.same("ack 1", x.bits(), Wire.bare(ADDRESS, 2, 1, 0, 1));
        x.hear();
        x.pass();
        CHECK.due("a poll is heard, not GOOD", x.state(1, 8), 0);
        x.slot();
        CHECK.same("ack 0", x.bits(), Wire.bare(ADDRESS, 2, 0, 0, 3));
        Link y = Link.plain(ADDRESS);
        y.message(0, 1);
        y.slot();
        y.flip(60);
        CHECK.due("a bad load", y.hear(), RadioPair.BAD);
        y.slot();
        CHECK.same("ack 0", y.bits(), Wire.bare(ADDRESS, 2, 0, 0, 1));
    }

    private static void spokenIsNeitherGoodNorHeard() {
        CHECK.sentence("Behind speaking, GOOD and HEARD of that device are false.");
        Link x = new Link(ADDRESS);
        x.message(0, 1);
        x.message(1, 2);
        x.pass();
        CHECK.same("device 1 took a load", List.of(x.state(1, 8), x.state(1, 9)), List.of(1, 1));
        x.slot();
        CHECK.same("and spoke", List.of(x.state(1, 8), x.state(1, 9)), List.of(0, 0));
        x.hear();
        CHECK.same("device 0 took a load", List.of(x.state(0, 8), x.state(0, 9)), List.of(1, 1));
        CHECK.same("device 1 is as it was", List.of(x.state(1, 8), x.state(1, 9)), List.of(0, 0));
        x.slot();
        CHECK.same("and spoke", List.of(x.state(0, 8), x.state(0, 9)), List.of(0, 0));
        CHECK.due("unheard: device 1 has no answer", x.slot(), RadioPair.SILENT);
        CHECK.due("device 0 polls", x.slot(), RadioPair.POLL);
        CHECK.same("acknowledging just once", x.bits(), Wire.bare(ADDRESS, 1, 0, 1, 4));
    }
}
