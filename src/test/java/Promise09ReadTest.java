/** Promise 9: read. */
final class Promise09ReadTest {
    private static final Check CHECK = new Check("Promise 9");

    private Promise09ReadTest() {
    }

    public static void main(String[] args) {
        byteOfTheOldest();
        everyByteOfTheLongest();
        noSuchByte();
        CHECK.end();
    }

    private static void byteOfTheOldest() {
        CHECK.sentence("of the oldest message taken by the device;");
        Link x = new Link(3);
        for (int k = 0; k < 9; k++) {
            x.message(0, 10 * k, 10 * k + 1);
            x.message(1, 200 + k);
            x.passes(2);
            // Three stay behind, so that the row of messages taken goes round.
            if (k >= 3) {
                CHECK.due("device 1, byte 0", x.read(1, 0), 10 * (k - 3));
                CHECK.due("device 1, byte 1", x.read(1, 1), 10 * (k - 3) + 1);
                CHECK.due("device 1, byte 0 again", x.read(1, 0), 10 * (k - 3));
                CHECK.due("device 0, byte 0", x.read(0, 0), 200 + k - 3);
                x.next(1);
                x.next(0);
            }
        }
    }

    private static void everyByteOfTheLongest() {
        CHECK.sentence("Byte i");
        for (int device = 0; device < 2; device++) {
            Link x = new Link(3);
            x.guard(device, device == 0);
            x.message(device, Link.counting(216, 40));
            x.passes(10);
            for (int i = 0; i < 40; i++) {
                CHECK.due("read(" + (1 - device) + ", " + i + ")", x.read(1 - device, i), 216 + i);
            }
            CHECK.due("reading takes nothing away", x.state(1 - device, 1), 1);
        }
    }

    private static void noSuchByte() {
        CHECK.sentence("REFUSED if there is none.");
        Link x = new Link(3);
        CHECK.due("no message was ever taken", x.read(1, 0), RadioPair.REFUSED);
        x.message(0, Link.counting(5, 20));
        x.message(0, 8, 9);
        x.passes(2);
        CHECK.due("one is being put together", x.read(1, 0), RadioPair.REFUSED);
        x.passes(5);
        CHECK.due("the sender took nothing", x.read(0, 0), RadioPair.REFUSED);
        for (int i : new int[] {-1, 20, 21, Integer.MIN_VALUE, Integer.MAX_VALUE}) {
            CHECK.due("read(1, " + i + ")", x.read(1, i), RadioPair.REFUSED);
        }
        CHECK.due("its last byte", x.read(1, 19), 24);
        for (int device : new int[] {-1, 2, Integer.MIN_VALUE, Integer.MAX_VALUE}) {
            CHECK.due("read(" + device + ", 0)", x.read(device, 0), RadioPair.REFUSED);
        }
        x.next(1);
        CHECK.due("the second one's last byte", x.read(1, 1), 9);
        CHECK.due("behind it is nothing of the first", x.read(1, 2), RadioPair.REFUSED);
        x.next(1);
        CHECK.due("none is left", x.read(1, 0), RadioPair.REFUSED);
    }
}
