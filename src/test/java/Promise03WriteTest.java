/** Promise 3: write. */
final class Promise03WriteTest {
    private static final Check CHECK = new Check("Promise 3");

    private Promise03WriteTest() {
    }

    public static void main(String[] args) {
        appendsABytePerDevice();
        bytesOutOfRange();
        fullWithForty();
        answersTheLength();
        CHECK.end();
    }

    private static void appendsABytePerDevice() {
        CHECK.sentence("to the message that is being written for the device.");
        Link x = new Link(2);
        int[] bytes = {0, 255, 128, 1, 254};
        for (int b : bytes) {
            x.write(0, b);
            x.write(1, 255 - b);
        }
        x.send(0);
        x.send(1);
        x.passes(2);
        for (int i = 0; i < bytes.length; i++) {
            CHECK.due("byte " + i + " of device 0, at device 1", x.read(1, i), bytes[i]);
            CHECK.due("byte " + i + " of device 1, at device 0", x.read(0, i), 255 - bytes[i]);
        }
        for (int device : new int[] {-1, 2, Integer.MIN_VALUE, Integer.MAX_VALUE}) {
            CHECK.due("write(" + device + ", 0)", x.write(device, 0), RadioPair.REFUSED);
        }
    }

    private static void bytesOutOfRange() {
        CHECK.sentence("Appends a byte (0 .. 255)");
        for (int device = 0; device < 2; device++) {
            Link x = new Link(2);
            CHECK.due("the least", x.write(device, 0), 1);
            CHECK.due("the greatest", x.write(device, 255), 2);
            for (int b : new int[] {-1, 256, -256, 512, Integer.MIN_VALUE, Integer.MAX_VALUE}) {
                CHECK.due("write(" + device + ", " + b + ")", x.write(device, b), RadioPair.REFUSED);
            }
            CHECK.due("written", x.count(2 + device), 2);
        }
    }

    private static void fullWithForty() {
        CHECK.sentence("It has 40: FULL.");
        for (int device = 0; device < 2; device++) {
            Link x = new Link(2);
            for (int i = 0; i < 39; i++) {
                x.write(device, i);
            }
            CHECK.due("the fortieth", x.write(device, 39), 40);
            CHECK.due("one more", x.write(device, 77), RadioPair.FULL);
            CHECK.due("and one more", x.write(device, 78), RadioPair.FULL);
            CHECK.due("a number out of range", x.write(device, 256), RadioPair.REFUSED);
            CHECK.due("written", x.count(2 + device), 40);
            CHECK.due("for the other device there is room", x.write(1 - device, 1), 1);
            x.send(device);
            CHECK.due("behind send there is room", x.write(device, 1), 1);
            x.passes(10 + device);
            CHECK.due("the fortieth byte came over", x.read(1 - device, 39), 39);
            CHECK.due("the forty-first did not", x.next(1 - device), 40);
        }
    }

    private static void answersTheLength() {
        CHECK.sentence("Else its length.");
        for (int device = 0; device < 2; device++) {
            Link x = new Link(2);
            for (int i = 1; i <= 40; i++) {
                CHECK.due("write number " + i, x.write(device, 5), i);
            }
            x.send(device);
            CHECK.due("the first of the next message", x.write(device, 5), 1);
        }
    }
}
