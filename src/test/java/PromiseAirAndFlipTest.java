import java.util.List;

/** Promise 6, air, and promise 7, flip: every bit of a frame, and the edges of the air. */
final class PromiseAirAndFlipTest {
    private static final Check CHECK = new Check();

    private PromiseAirAndFlipTest() {
    }

    public static void main(String[] args) {
        pollByHand();
        everySizeOfLoad();
        edgesOfTheAir();
        flipsGoBothWays();
        CHECK.end();
    }

    /** The bits worked out with pencil and paper, free of the helpers in Wire. */
    private static void pollByHand() {
        // Address 1, kind 1, the bit 1, ack 0, turn 0; the rest of 1001000100 00000000 by 110100111.
        String head = "100" + "1000" + "1" + "0" + "0" + "00001000";
        // 64: six zeros, then a one; from there each bit is the one 7 before xor the one 3 before.
        String white = "000000100100110100";
        RadioPair x = new RadioPair(1);
        x.slot();
        CHECK.due("bits", x.count(1), 54);
        for (int i = 0; i < 54; i++) {
            int want = head.charAt(i / 3) == white.charAt(i / 3) ? 0 : 1;
            CHECK.due("air(" + i + ") of a poll", x.air(i), want);
        }
    }

    private static void everySizeOfLoad() {
        for (int size = 1; size <= 12; size++) {
            for (int kind = 3; kind <= 4; kind++) {
                if (kind == 4 || size <= 8) {
                    everyBit(kind, Steps.counting(251 - 20 * size, size));
                }
            }
        }
    }

    private static void everyBit(int kind, int[] bytes) {
        RadioPair x = new RadioPair(5);
        x.guard(0, kind == 3);
        Steps.message(x, 0, bytes);
        x.slot();
        int[] sent = new int[bytes.length + 1];
        sent[0] = bytes.length;
        System.arraycopy(bytes, 0, sent, 1, bytes.length);
        List<Integer> want =
            Wire.frame(Wire.head(5, kind, 1, 0, 1), Wire.load(4 * sent.length + 2, sent), 0);
        CHECK.due("bits of " + bytes.length, x.count(1), want.size());
        for (int i = 0; i < want.size(); i++) {
            CHECK.due("kind " + kind + ", " + bytes.length + " bytes: air(" + i + ")", x.air(i), want.get(i));
        }
    }

    private static void edgesOfTheAir() {
        RadioPair x = new RadioPair(5);
        CHECK.due("before the first slot", x.air(0), RadioPair.REFUSED);
        x.slot();
        for (int i : new int[] {-1, 54, 55, Integer.MIN_VALUE, Integer.MAX_VALUE}) {
            CHECK.due("air(" + i + ")", x.air(i), RadioPair.REFUSED);
            CHECK.due("flip(" + i + ")", x.flip(i), RadioPair.REFUSED);
        }
        CHECK.due("flip(53)", x.flip(53), 0);
        CHECK.due("flip(0)", x.flip(0), 0);
        x.hear();
        CHECK.due("behind hear: air(0)", x.air(0), RadioPair.REFUSED);
        CHECK.due("behind hear: flip(0)", x.flip(0), RadioPair.REFUSED);
    }

    private static void flipsGoBothWays() {
        RadioPair x = new RadioPair(5);
        x.slot();
        List<Integer> before = Wire.onAir(x);
        for (int i = 0; i < 54; i++) {
            x.flip(i);
            CHECK.due("turned over: air(" + i + ")", x.air(i), 1 - before.get(i));
        }
        for (int i = 0; i < 54; i++) {
            x.flip(i);
            CHECK.due("and back: air(" + i + ")", x.air(i), before.get(i));
        }
        CHECK.due("as many bits", x.count(1), 54);
        CHECK.due("as if nothing had been", x.hear(), RadioPair.HEAD);
    }
}
