import java.util.List;

/** Promise 11: state, one number after the other, and all of them through the life of a link. */
final class Promise11StateTest {
    private static final Check CHECK = new Check("Promise 11");
    private static final int ADDRESS = 7;

    private Promise11StateTest() {
    }

    public static void main(String[] args) {
        messagesToSend();
        messagesTaken();
        bytesInNoFrame();
        bytesNotAcknowledged();
        bytesPutTogether();
        messagesDropped();
        bitsCorrected();
        turnBit();
        good();
        heard();
        elseRefused();
        throughALife();
        CHECK.end();
    }

    private static void messagesToSend() {
        CHECK.sentence("Of a device: messages to send, without the one being sent (0),");
        for (int device = 0; device < 2; device++) {
            Link x = new Link(ADDRESS);
            x.passes(device);
            CHECK.due("none", x.state(device, 0), 0);
            for (int k = 1; k <= 6; k++) {
                x.message(device, Link.counting(0, 9));
                CHECK.due("in the row", x.state(device, 0), k);
            }
            x.message(device, 1);
            CHECK.due("six at most", x.state(device, 0), 6);
            x.slot();
            CHECK.due("one is being sent", x.state(device, 0), 5);
            x.hear();
            x.passes(2);
            CHECK.due("and all in frames", x.state(device, 0), 5);
            CHECK.due("of the other device", x.state(1 - device, 0), 0);
        }
    }

    private static void messagesTaken() {
        CHECK.sentence("taken (1),");
        for (int device = 0; device < 2; device++) {
            Link x = new Link(ADDRESS);
            x.passes(device);
            for (int k = 1; k <= 8; k++) {
                x.message(device, k);
                x.passes(2);
                CHECK.due("taken by the other device", x.state(1 - device, 1), Math.min(k, 6));
            }
            x.next(1 - device);
            CHECK.due("one is gone", x.state(1 - device, 1), 5);
            CHECK.due("by itself", x.state(device, 1), 0);
        }
    }

    private static void bytesInNoFrame() {
        CHECK.sentence("bytes of the one being sent that were in no frame yet, its length byte counted (2),");
        for (int device = 0; device < 2; device++) {
            Link x = Link.plain(ADDRESS);
            x.passes(device);
            x.message(device, Link.counting(0, 40));
            CHECK.due("in the row, not being sent", x.state(device, 2), 0);
            for (int left : new int[] {28, 15, 2, 0}) {
                x.slot();
                CHECK.due("of 41 bytes", x.state(device, 2), left);
                x.hear();
                CHECK.due("heard", x.state(device, 2), left);
                x.pass();
                CHECK.due("acknowledged", x.state(device, 2), left);
            }
            x.message(device, 1);
            CHECK.due("another one in the row", x.state(device, 2), 0);
        }
    }

    private static void bytesNotAcknowledged() {
        CHECK.sentence("of its frame not acknowledged (3; 0 if none),");
        for (int device = 0; device < 2; device++) {
            Link x = new Link(ADDRESS);
            x.passes(device);
            x.message(device, Link.counting(0, 9));
            CHECK.due("none yet", x.state(device, 3), 0);
            x.slot();
            CHECK.due("its length byte and eight", x.state(device, 3), 9);
            x.hear();
            CHECK.due("heard, and not acknowledged", x.state(device, 3), 9);
            x.pass();
            CHECK.due("acknowledged", x.state(device, 3), 0);
            x.slot();
            CHECK.due("the ninth byte", x.state(device, 3), 1);
            x.slot();
            CHECK.due("which nobody heard", x.state(device, 3), 1);
        }
    }

    private static void bytesPutTogether() {
        CHECK.sentence("of the one being put together, so far (4; 0 if none),");
        for (int device = 0; device < 2; device++) {
            Link x = new Link(ADDRESS);
            x.passes(device);
            x.message(device, Link.counting(0, 40));
            CHECK.due("none", x.state(1 - device, 4), 0);
            for (int bytes : new int[] {8, 17, 26, 35, 0}) {
                x.pass();
                CHECK.due("of 40", x.state(1 - device, 4), bytes);
                x.pass();
                CHECK.due("of the sender", x.state(device, 4), 0);
            }
        }
        Link x = Link.plain(ADDRESS);
        x.message(0, 1);
        x.slot();
        List<Integer> head = Wire.head(ADDRESS, 4, 1, 0, 1);
        x.forge(Wire.frame(head, Wire.load(10, 1, 1), 0), Wire.frame(head, Wire.load(6, 2), 0));
        x.hear();
        CHECK.due("a length byte belongs to no message", x.state(1, 4), 0);
    }

    private static void messagesDropped() {
        CHECK.sentence("messages dropped, in any of the ways (5),");
        Link x = Link.plain(ADDRESS);
        // Each load is put in the place of one of bytes 2, 7, 8, which device 0 sends.
        List<List<Integer>> loads = List.of(Wire.load(14, 9, 7, 8), Wire.load(14, 2, 7, 8), Wire.load(14, 1, 7, 8),
            Wire.load(13, 1, 7, 8), Wire.load(6, 5), Wire.load(14, 3, 7, 8), Wire.load(9, 7, 8));
        int[] dropped = {0, 1, 2, 2, 2, 3, 4};
        for (int k = 0; k < dropped.length; k++) {
            x.message(0, 7, 8);
            x.slot();
            List<Integer> head = Wire.head(ADDRESS, 4, 1, 0, 1 - k % 2);
            x.forge(Wire.frame(head, Wire.load(14, 2, 7, 8), 2 * k), Wire.frame(head, loads.get(k), 2 * k));
            x.hear();
            CHECK.due("behind load " + k, x.state(1, 5), dropped[k]);
            x.pass();
        }
        for (int k = 2; k <= 6; k++) {
            x.message(0, 1);
            x.passes(2);
        }
        CHECK.due("six are taken", x.state(1, 1), 6);
        x.message(0, 1);
        x.pass();
        CHECK.due("a seventh finds no place", x.state(1, 5), 5);
        CHECK.due("of the sender", x.state(0, 5), 0);
        x.next(1);
        CHECK.due("next drops none", x.state(1, 5), 5);
    }

    private static void bitsCorrected() {
        CHECK.sentence("bits CORRECTED in loads it took (6),");
        for (int device = 0; device < 2; device++) {
            Link x = new Link(ADDRESS);
            x.passes(device);
            x.message(device, 1, 2, 3);
            x.slot();
            x.flips(0, 54, 70, 143);
            CHECK.due("heard", x.hear(), RadioPair.TAKEN);
            CHECK.due("three, without the one in HEAD", x.state(1 - device, 6), 3);
            CHECK.due("of the sender", x.state(device, 6), 0);
        }
        Link x = new Link(ADDRESS);
        x.message(0, 1, 2, 3);
        x.slot();
        x.flip(60);
        x.hear();
        x.slot();
        x.slot();
        x.flips(61, 80);
        CHECK.due("the same load", x.hear(), RadioPair.AGAIN);
        CHECK.due("counts too", x.state(1, 6), 3);
        x.slot();
        x.slot();
        x.flips(61, 62, 80);
        CHECK.due("and once more", x.hear(), RadioPair.BAD);
        CHECK.due("counts where it is bad", x.state(1, 6), 4);
    }

    private static void turnBit() {
        CHECK.sentence("its turn bit (7),");
        for (int device = 0; device < 2; device++) {
            Link x = new Link(ADDRESS);
            x.passes(device);
            CHECK.due("at first", x.state(device, 7), 0);
            for (int k = 1; k <= 4; k++) {
                x.message(device, k);
                CHECK.due("before frame " + k, x.state(device, 7), 1 - k % 2);
                x.slot();
                CHECK.due("behind frame " + k, x.state(device, 7), k % 2);
                x.hear();
                x.pass();
                CHECK.due("of the one who took it", x.state(1 - device, 7), 0);
            }
            x.passes(2);
            CHECK.due("a bare frame leaves it", x.state(device, 7), 0);
        }
    }

    private static void good() {
        CHECK.sentence("GOOD (8),");
        Link x = new Link(ADDRESS);
        x.pass();
        CHECK.due("a poll", x.state(1, 8), 0);
        x.message(1, 4);
        x.pass();
        CHECK.due("a load, at device 0", x.state(0, 8), 1);
        x.slot();
        CHECK.due("device 0 has spoken", x.state(0, 8), 0);
        x.hear();
        x.message(0, 4);
        x.pass();
        x.pass();
        CHECK.due("a load, at device 1", x.state(1, 8), 1);
        x.slot();
        CHECK.due("device 1 has spoken", x.state(1, 8), 0);
    }

    private static void heard() {
        CHECK.sentence("HEARD (9);");
        Link x = new Link(ADDRESS);
        x.slot();
        CHECK.due("on the air, not heard", x.state(1, 9), 0);
        x.hear();
        CHECK.due("heard", x.state(1, 9), 1);
        x.slot();
        CHECK.due("device 1 has spoken", x.state(1, 9), 0);
        x.hear();
        CHECK.due("device 0 heard", x.state(0, 9), 1);
        x.slot();
        CHECK.due("device 0 has spoken", x.state(0, 9), 0);
    }

    private static void elseRefused() {
        CHECK.sentence("else REFUSED.");
        Link x = new Link(ADDRESS);
        for (int what : new int[] {-1, 10, 11, Integer.MIN_VALUE, Integer.MAX_VALUE}) {
            CHECK.due("state(0, " + what + ")", x.state(0, what), RadioPair.REFUSED);
            CHECK.due("state(1, " + what + ")", x.state(1, what), RadioPair.REFUSED);
        }
        for (int device : new int[] {-1, 2, Integer.MIN_VALUE, Integer.MAX_VALUE}) {
            for (int what = 0; what < 10; what++) {
                CHECK.due("state(" + device + ", " + what + ")", x.state(device, what), RadioPair.REFUSED);
            }
        }
    }

    private static void states(String when, Link x, int device, Integer... want) {
        CHECK.same(when, x.states(device), List.of(want));
    }

    private static void throughALife() {
        CHECK.sentence("Of a device:");
        Link x = new Link(ADDRESS);
        x.message(0, Link.counting(0, 20));
        x.message(0, 1);
        states("two to send", x, 0, 2, 0, 0, 0, 0, 0, 0, 0, 0, 0);
        x.slot();
        states("one being sent", x, 0, 1, 0, 12, 9, 0, 0, 0, 1, 0, 0);
        x.flips(54, 69);
        x.hear();
        states("the first part", x, 1, 0, 0, 0, 0, 8, 0, 2, 0, 1, 1);
        states("not acknowledged", x, 0, 1, 0, 12, 9, 0, 0, 0, 1, 0, 0);
        x.slot();
        states("device 1 spoke", x, 1, 0, 0, 0, 0, 8, 0, 2, 0, 0, 0);
        x.hear();
        states("acknowledged", x, 0, 1, 0, 12, 0, 0, 0, 0, 1, 0, 1);
        x.slot();
        states("the second part", x, 0, 1, 0, 3, 9, 0, 0, 0, 0, 0, 0);
        x.hear();
        states("is there", x, 1, 0, 0, 0, 0, 17, 0, 2, 0, 1, 1);
        x.passes(2);
        states("all is there", x, 1, 0, 1, 0, 0, 0, 0, 2, 0, 1, 1);
        states("all is sent", x, 0, 1, 0, 0, 3, 0, 0, 0, 1, 0, 0);
        x.message(1, 50, 51);
        x.pass();
        states("device 1 sends", x, 1, 0, 1, 0, 3, 0, 0, 2, 1, 0, 0);
        states("device 0 took it", x, 0, 1, 1, 0, 0, 0, 0, 0, 1, 1, 1);
        x.pass();
        states("device 0 went on", x, 0, 0, 1, 0, 2, 0, 0, 0, 0, 0, 0);
        states("device 1 has both", x, 1, 0, 2, 0, 0, 0, 0, 2, 1, 1, 1);
    }
}
