/** Promise 4: send. */
final class Promise04SendTest {
    private static final Check CHECK = new Check("Promise 4");

    private Promise04SendTest() {
    }

    public static void main(String[] args) {
        oneToFortyBytes();
        nothingIsRefused();
        toTheEndOfTheRow();
        sixThere();
        nothingIsWrittenThen();
        howManyWithoutTheOneBeingSent();
        CHECK.end();
    }

    private static void oneToFortyBytes() {
        CHECK.sentence("The written message, 1 .. 40 bytes");
        for (int size : new int[] {1, 2, 39, 40}) {
            Link x = new Link(2);
            CHECK.due("send of " + size, x.message(0, Link.counting(5, size)), 1);
            x.passes(10);
            CHECK.due("its last byte", x.read(1, size - 1), 4 + size);
            CHECK.due("its length", x.next(1), size);
        }
    }

    private static void nothingIsRefused() {
        CHECK.sentence("(none: REFUSED)");
        for (int device = 0; device < 2; device++) {
            Link x = new Link(2);
            CHECK.due("nothing was ever written", x.send(device), RadioPair.REFUSED);
            x.write(1 - device, 1);
            CHECK.due("only the other device has written", x.send(device), RadioPair.REFUSED);
            x.message(device, 1);
            CHECK.due("all is sent", x.send(device), RadioPair.REFUSED);
            CHECK.due("messages to send", x.state(device, 0), 1);
            for (int k = 0; k < 5; k++) {
                x.message(device, k);
            }
            CHECK.due("nothing to a row of six", x.send(device), RadioPair.REFUSED);
        }
        Link x = new Link(2);
        for (int device : new int[] {-1, 2, Integer.MIN_VALUE, Integer.MAX_VALUE}) {
            CHECK.due("send(" + device + ")", x.send(device), RadioPair.REFUSED);
        }
    }

    private static void toTheEndOfTheRow() {
        CHECK.sentence("goes to the end of the device's row of messages to send;");
        for (int device = 0; device < 2; device++) {
            Link x = new Link(2);
            // The row goes round: messages leave at its front while others come to its end.
            for (int k = 0; k < 9; k++) {
                x.message(device, 10 * device + k);
                if (k >= 3) {
                    x.passes(2);
                    CHECK.due("in the order of sending", x.read(1 - device, 0), 10 * device + k - 3);
                    CHECK.due("one by one", x.next(1 - device), 1);
                    CHECK.due("not to the other device's", x.state(1 - device, 0), 0);
                }
            }
        }
    }

    private static void sixThere() {
        CHECK.sentence("6 there: FULL.");
        for (int device = 0; device < 2; device++) {
            Link x = new Link(2);
            for (int k = 1; k <= 6; k++) {
                CHECK.due("send number " + k, x.message(device, k, k), k);
            }
            CHECK.due("send number 7", x.message(device, 7, 8), RadioPair.FULL);
            CHECK.due("to send", x.state(device, 0), 6);
            CHECK.due("the message stays written", x.count(2 + device), 2);
            CHECK.due("and can grow", x.write(device, 9), 3);
            CHECK.due("still full", x.send(device), RadioPair.FULL);
            CHECK.due("the other device's row has room", x.message(1 - device, 1), 1);
            x.pass();
            x.slot();
            CHECK.due("one is being sent", x.state(device, 0), 5);
            CHECK.due("so there is room", x.send(device), 6);
        }
    }

    private static void nothingIsWrittenThen() {
        CHECK.sentence("Nothing is written then.");
        for (int device = 0; device < 2; device++) {
            Link x = new Link(2);
            x.write(1 - device, 4);
            x.message(device, 1, 2, 3);
            CHECK.due("written", x.count(2 + device), 0);
            CHECK.due("of the other device", x.count(3 - device), 1);
            CHECK.due("the next message begins", x.write(device, 9), 1);
            x.send(device);
            x.passes(4);
            CHECK.due("the first message", x.next(1 - device), 3);
            CHECK.due("the next one has none of its bytes", x.read(1 - device, 0), 9);
            CHECK.due("its length", x.next(1 - device), 1);
        }
    }

    private static void howManyWithoutTheOneBeingSent() {
        CHECK.sentence("How many there are, without the one being sent.");
        for (int device = 0; device < 2; device++) {
            Link x = new Link(2);
            CHECK.due("the first", x.message(device, Link.counting(0, 20)), 1);
            CHECK.due("the second", x.message(device, 1), 2);
            x.pass();
            x.slot();
            CHECK.due("with one being sent", x.message(device, 2), 2);
            x.hear();
            CHECK.due("with one being sent, still", x.message(device, 3), 3);
            x.passes(8);
            CHECK.due("with two more of them sent", x.message(device, 4), 2);
        }
    }
}
