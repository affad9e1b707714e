/** Promise 2: guard. */
final class Promise02GuardTest {
    private static final Check CHECK = new Check("Promise 2");

    private Promise02GuardTest() {
    }

    public static void main(String[] args) {
        fromNowOnForNewFrames();
        eachDeviceByItself();
        otherDevicesAreRefused();
        answersZero();
        CHECK.end();
    }

    private static void fromNowOnForNewFrames() {
        CHECK.sentence("is guarded from now on, for frames that are new.");
        Link x = new Link(1);
        x.message(0, Link.counting(0, 40));
        CHECK.due("a first frame", x.slot(), RadioPair.GUARDED);
        x.guard(0, false);
        CHECK.due("is on the air as it was", x.count(1), 54 + 150);
        CHECK.due("unheard", x.slot(), RadioPair.SILENT);
        CHECK.due("is sent again as it was", x.slot(), RadioPair.GUARDED);
        CHECK.due("with its nine bytes", x.state(0, 3), 9);
        CHECK.due("taken", x.hear(), RadioPair.TAKEN);
        CHECK.due("acknowledged", x.pass(), RadioPair.HEAD);
        CHECK.due("a new frame, in the midst of the message", x.slot(), RadioPair.PLAIN);
        CHECK.due("with thirteen bytes", x.state(0, 3), 13);
        x.guard(0, true);
        CHECK.due("unheard", x.slot(), RadioPair.SILENT);
        CHECK.due("is sent again as it was", x.slot(), RadioPair.PLAIN);
        CHECK.due("taken", x.hear(), RadioPair.TAKEN);
        CHECK.due("acknowledged", x.pass(), RadioPair.HEAD);
        CHECK.due("the new frame behind it", x.slot(), RadioPair.GUARDED);
        CHECK.due("with nine bytes", x.state(0, 3), 9);
    }

    private static void eachDeviceByItself() {
        CHECK.sentence("Whether the device (0, 1) is guarded");
        for (int device = 0; device < 2; device++) {
            Link x = new Link(6);
            x.guard(device, false);
            x.message(0, 1);
            x.message(1, 2);
            CHECK.due("device 0", x.slot(), device == 0 ? RadioPair.PLAIN : RadioPair.GUARDED);
            x.hear();
            CHECK.due("device 1", x.slot(), device == 1 ? RadioPair.PLAIN : RadioPair.GUARDED);
        }
    }

    private static void otherDevicesAreRefused() {
        CHECK.sentence("the device (0, 1)");
        Link x = new Link(6);
        for (int device : new int[] {-1, 2, Integer.MIN_VALUE, Integer.MAX_VALUE}) {
            CHECK.due("guard(" + device + ", false)", x.guard(device, false), RadioPair.REFUSED);
        }
        x.message(0, 1);
        x.message(1, 1);
        CHECK.due("device 0 is still guarded", x.slot(), RadioPair.GUARDED);
        x.hear();
        CHECK.due("device 1 is still guarded", x.slot(), RadioPair.GUARDED);
    }

    private static void answersZero() {
        CHECK.sentence("0.");
        Link x = new Link(6);
        for (int device = 0; device < 2; device++) {
            CHECK.due("guard(" + device + ", true), as it was", x.guard(device, true), 0);
            CHECK.due("guard(" + device + ", false)", x.guard(device, false), 0);
            CHECK.due("guard(" + device + ", false) again", x.guard(device, false), 0);
            CHECK.due("guard(" + device + ", true)", x.guard(device, true), 0);
        }
    }
}
