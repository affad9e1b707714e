/** Promise 1, a new object, and promise 2, guard. */
final class PromiseNewAndGuardTest {
    private static final Check CHECK = new Check();

    private PromiseNewAndGuardTest() {
    }

    public static void main(String[] args) {
        addressIsClamped();
        allIsEmptyAtFirst();
        bothAreGuardedAtFirst();
        guardIsForNewFrames();
        guardIsOfOneDevice();
        guardRefusesOtherDevices();
        CHECK.end();
    }

    private static void addressIsClamped() {
        int[][] addresses = {{Integer.MIN_VALUE, 1}, {-1, 1}, {0, 1}, {1, 1}, {2, 2}, {3, 3}, {4, 4}, {5, 5},
            {6, 6}, {7, 7}, {8, 7}, {9, 7}, {Integer.MAX_VALUE, 7}};
        for (int[] pair : addresses) {
            RadioPair x = new RadioPair(pair[0]);
            x.slot();
            boolean same = Wire.onAir(x).equals(Wire.bare(pair[1], RadioPair.POLL, 0, 0, 0));
            CHECK.due("the address of RadioPair(" + pair[0] + ") is " + pair[1], same ? 1 : 0, 1);
            CHECK.due("hear() at address " + pair[0], x.hear(), RadioPair.HEAD);
        }
    }

    private static void allIsEmptyAtFirst() {
        RadioPair x = new RadioPair(3);
        for (int device = 0; device < 2; device++) {
            for (int what = 0; what < 10; what++) {
                CHECK.due("new: state(" + device + ", " + what + ")", x.state(device, what), 0);
            }
            CHECK.due("new: read(" + device + ", 0)", x.read(device, 0), RadioPair.REFUSED);
            CHECK.due("new: next(" + device + ")", x.next(device), RadioPair.REFUSED);
            CHECK.due("new: send(" + device + ")", x.send(device), RadioPair.REFUSED);
        }
        for (int what = 0; what < 4; what++) {
            CHECK.due("new: count(" + what + ")", x.count(what), 0);
        }
        CHECK.due("new: air(0)", x.air(0), RadioPair.REFUSED);
        CHECK.due("new: flip(0)", x.flip(0), RadioPair.REFUSED);
        CHECK.due("new: hear()", x.hear(), RadioPair.SILENT);
    }

    private static void bothAreGuardedAtFirst() {
        RadioPair x = new RadioPair(1);
        Steps.message(x, 0, 1);
        Steps.message(x, 1, 2);
        CHECK.due("first frame of device 0", x.slot(), RadioPair.GUARDED);
        x.hear();
        CHECK.due("first frame of device 1", x.slot(), RadioPair.GUARDED);
    }

    private static void guardIsForNewFrames() {
        RadioPair x = new RadioPair(1);
        Steps.message(x, 0, Steps.counting(0, 40));
        CHECK.due("guarded: slot()", x.slot(), RadioPair.GUARDED);
        CHECK.due("guard(0, false)", x.guard(0, false), 0);
        CHECK.due("unheard", x.slot(), RadioPair.SILENT);
        CHECK.due("the same frame again", x.slot(), RadioPair.GUARDED);
        CHECK.due("its bytes", x.state(0, 3), 9);
        CHECK.due("taken", x.hear(), RadioPair.TAKEN);
        CHECK.due("acknowledged", Steps.pass(x), RadioPair.HEAD);
        CHECK.due("a new frame", x.slot(), RadioPair.PLAIN);
        CHECK.due("its bytes", x.state(0, 3), 13);
        CHECK.due("guard(0, true)", x.guard(0, true), 0);
        CHECK.due("unheard", x.slot(), RadioPair.SILENT);
        CHECK.due("that frame again", x.slot(), RadioPair.PLAIN);
        CHECK.due("guard(0, true) again", x.guard(0, true), 0);
        CHECK.due("taken", x.hear(), RadioPair.TAKEN);
        CHECK.due("acknowledged", Steps.pass(x), RadioPair.HEAD);
        CHECK.due("the frame behind it", x.slot(), RadioPair.GUARDED);
        CHECK.due("its bytes", x.state(0, 3), 9);
    }

    private static void guardIsOfOneDevice() {
        RadioPair x = new RadioPair(6);
        x.guard(1, false);
        Steps.message(x, 0, 1);
        Steps.message(x, 1, 2);
        CHECK.due("device 0 stays guarded", x.slot(), RadioPair.GUARDED);
        x.hear();
        CHECK.due("device 1 is plain", x.slot(), RadioPair.PLAIN);
    }

    private static void guardRefusesOtherDevices() {
        RadioPair x = new RadioPair(6);
        for (int device : new int[] {-1, 2, Integer.MIN_VALUE, Integer.MAX_VALUE}) {
            CHECK.due("guard(" + device + ", false)", x.guard(device, false), RadioPair.REFUSED);
        }
        Steps.message(x, 0, 1);
        CHECK.due("still guarded", x.slot(), RadioPair.GUARDED);
    }
}
