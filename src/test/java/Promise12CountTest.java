/** Promise 12: count. */
final class Promise12CountTest {
    private static final Check CHECK = new Check("Promise 12");

    private Promise12CountTest() {
    }

    public static void main(String[] args) {
        theClock();
        bitsOnTheAir();
        bytesWritten();
        elseRefused();
        CHECK.end();
    }

    private static void theClock() {
        CHECK.sentence("The clock (0),");
        Link x = new Link(7);
        CHECK.due("before the first slot", x.count(0), 0);
        x.hear();
        CHECK.due("hear() is no slot", x.count(0), 0);
        for (int slots = 1; slots <= 200; slots++) {
            x.slot();
            CHECK.due("behind slots", x.count(0), slots);
        }
    }

    private static void bitsOnTheAir() {
        CHECK.sentence("bits on the air (1),");
        Link x = new Link(7);
        CHECK.due("before the first slot", x.count(1), 0);
        x.slot();
        CHECK.due("a poll", x.count(1), 54);
        x.flip(0);
        CHECK.due("a bit turned over is still one", x.count(1), 54);
        x.hear();
        CHECK.due("heard", x.count(1), 0);
        x.slot();
        CHECK.due("an idle", x.count(1), 54);
        x.slot();
        x.slot();
        CHECK.due("a silent slot", x.count(1), 0);
        int[] guarded = {60, 75, 90, 105, 120, 120, 135, 150, 150};
        for (int size = 1; size <= 9; size++) {
            Link y = new Link(7);
            y.message(0, Link.counting(0, size));
            y.slot();
            CHECK.due("guarded, " + size + " bytes", y.count(1), 54 + guarded[size - 1]);
        }
        for (int size = 1; size <= 14; size++) {
            Link y = Link.plain(7);
            y.message(0, Link.counting(0, size));
            y.slot();
            CHECK.due("plain, " + size + " bytes", y.count(1), 54 + Math.min(32 + 8 * size, 128));
        }
    }

    private static void bytesWritten() {
        CHECK.sentence("bytes written of device 0, 1 (2, 3);");
        for (int device = 0; device < 2; device++) {
            Link x = new Link(7);
            for (int size = 1; size <= 42; size++) {
                x.write(device, 1);
                CHECK.due("written of device " + device, x.count(2 + device), Math.min(size, 40));
                CHECK.due("of the other one", x.count(3 - device), 0);
            }
            x.send(device);
            CHECK.due("sent", x.count(2 + device), 0);
            x.write(device, 256);
            CHECK.due("refused", x.count(2 + device), 0);
        }
    }

    private static void elseRefused() {
        CHECK.sentence("else REFUSED.");
        Link x = new Link(7);
        for (int what : new int[] {-1, 4, 5, Integer.MIN_VALUE, Integer.MAX_VALUE}) {
            CHECK.due("count(" + what + ")", x.count(what), RadioPair.REFUSED);
        }
        CHECK.due("count(3)", x.count(3), 0);
    }
}
