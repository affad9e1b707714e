/** Promise 3, write, and promise 4, send. */
final class PromiseWriteAndSendTest {
    private static final Check CHECK = new Check();

    private PromiseWriteAndSendTest() {
    }

    public static void main(String[] args) {
        for (int device = 0; device < 2; device++) {
            writeTellsTheLength(device);
            rowHasSix(device);
            emptyIsRefusedWhenFull(device);
        }
        wrongNumbersAreRefused();
        writtenBytesComeOver();
        theOneBeingSentIsNotCounted();
        CHECK.end();
    }

    private static void writeTellsTheLength(int device) {
        RadioPair x = new RadioPair(2);
        for (int i = 1; i <= 40; i++) {
            CHECK.due("write number " + i, x.write(device, i == 40 ? 255 : 0), i);
        }
        CHECK.due("write number 41", x.write(device, 0), RadioPair.FULL);
        CHECK.due("write of 256 when full", x.write(device, 256), RadioPair.REFUSED);
        CHECK.due("written", x.count(2 + device), 40);
        CHECK.due("written for the other", x.count(3 - device), 0);
        CHECK.due("send of 40", x.send(device), 1);
        CHECK.due("nothing is written then", x.count(2 + device), 0);
        CHECK.due("send of nothing", x.send(device), RadioPair.REFUSED);
        CHECK.due("write behind send", x.write(device, 0), 1);
    }

    private static void rowHasSix(int device) {
        RadioPair x = new RadioPair(2);
        for (int i = 1; i <= 6; i++) {
            CHECK.due("send number " + i, Steps.message(x, device, i, i), i);
        }
        CHECK.due("send number 7", Steps.message(x, device, 7, 8), RadioPair.FULL);
        CHECK.due("to send", x.state(device, 0), 6);
        CHECK.due("the message stays written", x.count(2 + device), 2);
        CHECK.due("and can grow", x.write(device, 9), 3);
        x.slot();
        x.hear();
        x.slot();
        CHECK.due("one is being sent", x.state(device, 0), 5);
        CHECK.due("so there is room", x.send(device), 6);
    }

    private static void emptyIsRefusedWhenFull(int device) {
        RadioPair x = new RadioPair(2);
        for (int i = 0; i < 6; i++) {
            Steps.message(x, device, i);
        }
        CHECK.due("send of nothing to a full row", x.send(device), RadioPair.REFUSED);
    }

    private static void wrongNumbersAreRefused() {
        RadioPair x = new RadioPair(2);
        for (int b : new int[] {-1, 256, Integer.MIN_VALUE, Integer.MAX_VALUE}) {
            CHECK.due("write(0, " + b + ")", x.write(0, b), RadioPair.REFUSED);
        }
        for (int device : new int[] {-1, 2, Integer.MIN_VALUE, Integer.MAX_VALUE}) {
            CHECK.due("write(" + device + ", 0)", x.write(device, 0), RadioPair.REFUSED);
            CHECK.due("send(" + device + ")", x.send(device), RadioPair.REFUSED);
        }
        CHECK.due("nothing was written for 0", x.count(2), 0);
        CHECK.due("nothing was written for 1", x.count(3), 0);
    }

    private static void writtenBytesComeOver() {
        RadioPair x = new RadioPair(2);
        Steps.message(x, 0, 0, 255, 128, 1);
        Steps.message(x, 0, 7);
        Steps.message(x, 1, 90, 91);
        Steps.passes(x, 4);
        int[] first = {0, 255, 128, 1};
        for (int i = 0; i < first.length; i++) {
            CHECK.due("byte " + i, x.read(1, i), first[i]);
        }
        CHECK.due("the first message", x.next(1), 4);
        CHECK.due("then the second", x.read(1, 0), 7);
        CHECK.due("from device 1", x.read(0, 1), 91);
    }

    private static void theOneBeingSentIsNotCounted() {
        RadioPair x = new RadioPair(2);
        Steps.message(x, 0, Steps.counting(0, 20));
        x.slot();
        CHECK.due("it left the row", x.state(0, 0), 0);
        CHECK.due("send behind it", Steps.message(x, 0, 1), 1);
    }
}
