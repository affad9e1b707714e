import java.util.List;

/** Promise 6: air. */
final class Promise06AirTest {
    private static final Check CHECK = new Check("Promise 6");

    private Promise06AirTest() {
    }

    public static void main(String[] args) {
        bitsFromZero();
        noSuchBit();
        CHECK.end();
    }

    private static void bitsFromZero() {
        CHECK.sentence("The i-th bit (from 0) on the air;");
        // A poll at address 1, worked out with pencil and paper: its head, and WHITE of the clock 0.
        String head = "100" + "1000" + "1" + "0" + "0" + "00001000";
        String white = "000000100100110100";
        Link x = new Link(1);
        x.slot();
        for (int i = 0; i < 54; i++) {
            CHECK.due("air(" + i + ")", x.air(i), head.charAt(i / 3) == white.charAt(i / 3) ? 0 : 1);
        }
        for (int kind = 3; kind <= 4; kind++) {
            Link y = new Link(5);
            y.guard(0, kind == 3);
            y.message(0, 3, 141, 59);
            y.slot();
            List<Integer> want = Wire.frame(Wire.head(5, kind, 1, 0, 1), Wire.load(18, 3, 3, 141, 59), 0);
            for (int i = want.size() - 1; i >= 0; i--) {
                CHECK.due("kind " + kind + ": air(" + i + ")", y.air(i), want.get(i));
            }
            CHECK.due("asking changes nothing", y.hear(), RadioPair.TAKEN);
        }
    }

    private static void refusedAt(String when, Link x, int... places) {
        for (int i : places) {
            CHECK.due(when + ": air(" + i + ")", x.air(i), RadioPair.REFUSED);
        }
    }

    private static void noSuchBit() {
        CHECK.sentence("REFUSED if there is none.");
        int least = Integer.MIN_VALUE;
        int most = Integer.MAX_VALUE;
        Link x = new Link(5);
        refusedAt("before the first slot", x, 0, -1, 1, least, most);
        x.slot();
        CHECK.due("the last bit of a poll", x.air(53) >= 0 ? 1 : 0, 1);
        refusedAt("a poll", x, -1, 54, 55, least, most);
        x.hear();
        refusedAt("behind hear()", x, 0, 53);
        x.slot();
        x.slot();
        x.slot();
        refusedAt("a silent slot", x, 0, 53);
        Link guarded = new Link(5);
        guarded.message(0, Link.counting(0, 40));
        guarded.slot();
        CHECK.due("the last bit of the longest guarded frame", guarded.air(203) >= 0 ? 1 : 0, 1);
        refusedAt("the longest guarded frame", guarded, -1, 204, least, most);
        Link plain = Link.plain(5);
        plain.message(0, Link.counting(0, 40));
        plain.slot();
        CHECK.due("the last bit of the longest plain frame", plain.air(181) >= 0 ? 1 : 0, 1);
        refusedAt("the longest plain frame", plain, -1, 182, least, most);
    }
}
