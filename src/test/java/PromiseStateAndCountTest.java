/** Promise 11, state, and promise 12, count. */
final class PromiseStateAndCountTest {
    private static final Check CHECK = new Check();

    private PromiseStateAndCountTest() {
    }

    public static void main(String[] args) {
        throughALife();
        goodAndHeard();
        counts();
        wrongNumbersAreRefused();
        refusedCallsChangeNothing();
        CHECK.end();
    }

    private static void states(String when, RadioPair x, int device, int... want) {
        for (int what = 0; what < 10; what++) {
            CHECK.due(when + ": state(" + device + ", " + what + ")", x.state(device, what), want[what]);
        }
    }

    private static void throughALife() {
        RadioPair x = new RadioPair(7);
        Steps.message(x, 0, Steps.counting(0, 20));
        Steps.message(x, 0, 1);
        states("two to send", x, 0, 2, 0, 0, 0, 0, 0, 0, 0, 0, 0);
        x.slot();
        states("one being sent", x, 0, 1, 0, 12, 9, 0, 0, 0, 1, 0, 0);
        x.flip(54);
        x.flip(69);
        x.hear();
        states("the first part", x, 1, 0, 0, 0, 0, 8, 0, 2, 0, 1, 1);
        states("not acknowledged", x, 0, 1, 0, 12, 9, 0, 0, 0, 1, 0, 0);
        x.slot();
        states("device 1 spoke", x, 1, 0, 0, 0, 0, 8, 0, 2, 0, 0, 0);
        x.hear();
        states("acknowledged", x, 0, 1, 0, 12, 0, 0, 0, 0, 1, 0, 1);
        x.slot();
        states("the second part", x, 0, 1, 0, 3, 9, 0, 0, 0, 0, 0, 0);
        x.hear();
        states("is there", x, 1, 0, 0, 0, 0, 17, 0, 2, 0, 1, 1);
        Steps.passes(x, 2);
        states("all is there", x, 1, 0, 1, 0, 0, 0, 0, 2, 0, 1, 1);
        states("all is sent", x, 0, 1, 0, 0, 3, 0, 0, 0, 1, 0, 0);
        Steps.message(x, 1, 50, 51);
        Steps.pass(x);
        states("device 1 sends", x, 1, 0, 1, 0, 3, 0, 0, 2, 1, 0, 0);
        states("device 0 took it", x, 0, 1, 1, 0, 0, 0, 0, 0, 1, 1, 1);
        Steps.pass(x);
        states("device 0 went on", x, 0, 0, 1, 0, 2, 0, 0, 0, 0, 0, 0);
        states("device 1 has both", x, 1, 0, 2, 0, 0, 0, 0, 2, 1, 1, 1);
    }

    private static void goodAndHeard() {
        RadioPair x = new RadioPair(7);
        Steps.pass(x);
        CHECK.due("a poll: not GOOD", x.state(1, 8), 0);
        CHECK.due("a poll: HEARD", x.state(1, 9), 1);
        Steps.message(x, 1, 4);
        Steps.pass(x);
        CHECK.due("a load: GOOD", x.state(0, 8), 1);
        x.slot();
        CHECK.due("spoken: GOOD", x.state(0, 8), 0);
        CHECK.due("spoken: HEARD", x.state(0, 9), 0);
    }

    private static void counts() {
        RadioPair x = new RadioPair(7);
        x.write(0, 1);
        x.write(1, 1);
        x.write(1, 1);
        CHECK.due("written of device 0", x.count(2), 1);
        CHECK.due("written of device 1", x.count(3), 2);
        for (int slots = 1; slots <= 150; slots++) {
            x.slot();
            CHECK.due("slots", x.count(0), slots);
            CHECK.due("bits", x.count(1), slots % 2 == 1 ? 54 : 0);
        }
        RadioPair y = Steps.plainLink(7);
        Steps.message(y, 0, Steps.counting(0, 40));
        y.slot();
        CHECK.due("the longest plain frame", y.count(1), 54 + 128);
        y.hear();
        CHECK.due("taken from the air", y.count(1), 0);
        CHECK.due("hear() is no slot", y.count(0), 1);
        RadioPair z = new RadioPair(7);
        Steps.message(z, 0, Steps.counting(0, 40));
        z.slot();
        CHECK.due("the longest guarded frame", z.count(1), 54 + 150);
    }

    private static void wrongNumbersAreRefused() {
        RadioPair x = new RadioPair(7);
        for (int what : new int[] {-1, 10, 11, Integer.MIN_VALUE, Integer.MAX_VALUE}) {
            CHECK.due("state(0, " + what + ")", x.state(0, what), RadioPair.REFUSED);
            CHECK.due("state(1, " + what + ")", x.state(1, what), RadioPair.REFUSED);
        }
        for (int what : new int[] {-1, 4, 5, Integer.MIN_VALUE, Integer.MAX_VALUE}) {
            CHECK.due("count(" + what + ")", x.count(what), RadioPair.REFUSED);
        }
        for (int device : new int[] {-1, 2, Integer.MIN_VALUE, Integer.MAX_VALUE}) {
            CHECK.due("state(" + device + ", 0)", x.state(device, 0), RadioPair.REFUSED);
        }
    }

    private static String all(RadioPair x) {
        StringBuilder text = new StringBuilder();
        for (int what = 0; what < 10; what++) {
            text.append(x.state(0, what)).append(' ').append(x.state(1, what)).append(' ');
        }
        for (int what = 0; what < 4; what++) {
            text.append(x.count(what)).append(' ');
        }
        for (int i = 0; i < 5; i++) {
            text.append(x.read(0, i)).append(' ').append(x.read(1, i)).append(' ');
        }
        return text.append(Wire.onAir(x)).toString();
    }

    private static void refusedCallsChangeNothing() {
        RadioPair x = new RadioPair(7);
        Steps.message(x, 0, 1, 2, 3);
        Steps.pass(x);
        Steps.pass(x);
        Steps.message(x, 0, 4, 5);
        x.write(0, 6);
        x.write(1, 7);
        x.slot();
        String before = all(x);
        int[] refused = {x.guard(2, false), x.guard(-1, false), x.write(0, 256), x.write(1, -1), x.write(2, 0),
            x.write(-1, 0), x.send(2), x.send(-1), x.air(-1), x.air(x.count(1)), x.flip(-1), x.flip(x.count(1)),
            x.read(1, 3), x.read(2, 0), x.read(0, 0), x.next(0), x.next(2), x.next(-1), x.state(0, 10),
            x.state(2, 0), x.count(4), x.count(-1)};
        for (int k = 0; k < refused.length; k++) {
            CHECK.due("refused call " + k, refused[k], RadioPair.REFUSED);
        }
        CHECK.due("nothing has changed", all(x).equals(before) ? 1 : 0, 1);
        CHECK.due("the frame on the air is whole", x.hear(), RadioPair.TAKEN);
    }
}
