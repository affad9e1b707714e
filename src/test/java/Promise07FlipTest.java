import java.util.List;

/** Promise 7: flip. */
final class Promise07FlipTest {
    private static final Check CHECK = new Check("Promise 7");

    private Promise07FlipTest() {
    }

    public static void main(String[] args) {
        turnsOneBitOver();
        noSuchBit();
        answersZero();
        CHECK.end();
    }

    private static void turnsOneBitOver() {
        CHECK.sentence("Turns the i-th bit on the air over;");
        for (int i : new int[] {0, 1, 26, 53, 54, 60, 112, 113}) {
            Link x = new Link(5);
            x.message(0, 6);
            x.slot();
            List<Integer> want = Wire.frame(Wire.head(5, 3, 1, 0, 1), Wire.load(10, 1, 6), 0);
            want.set(i, 1 - want.get(i));
            x.flip(i);
            CHECK.same("with flip(" + i + ")", x.bits(), want);
            x.flip(i);
            want.set(i, 1 - want.get(i));
            CHECK.same("and again, back", x.bits(), want);
            CHECK.due("heard as if nothing had been", x.hear(), RadioPair.TAKEN);
            CHECK.due("nothing was corrected", x.state(1, 6), 0);
        }
    }

    private static void refusedAt(String when, Link x, int... places) {
        for (int i : places) {
            CHECK.due(when + ": flip(" + i + ")", x.flip(i), RadioPair.REFUSED);
        }
    }

    private static void noSuchBit() {
        CHECK.sentence("REFUSED if there is none.");
        int least = Integer.MIN_VALUE;
        int most = Integer.MAX_VALUE;
        Link x = new Link(5);
        refusedAt("before the first slot", x, 0, -1, 1, least, most);
        x.slot();
        refusedAt("a poll", x, -1, 54, 55, least, most);
        CHECK.due("the poll is whole", x.hear(), RadioPair.HEAD);
        refusedAt("behind hear()", x, 0, 53);
        x.slot();
        x.slot();
        x.slot();
        refusedAt("a silent slot", x, 0, 53);
        CHECK.due("nothing is on the air", x.hear(), RadioPair.SILENT);
        Link guarded = new Link(5);
        guarded.message(0, Link.counting(0, 40));
        guarded.slot();
        refusedAt("the longest guarded frame", guarded, -1, 204, least, most);
        CHECK.due("its last bit", guarded.flip(203), 0);
        CHECK.due("heard", guarded.hear(), RadioPair.TAKEN);
        CHECK.due("and corrected", guarded.state(1, 6), 1);
        Link plain = Link.plain(5);
        plain.message(0, Link.counting(0, 40));
        plain.slot();
        refusedAt("the longest plain frame", plain, -1, 182, least, most);
        CHECK.due("its last bit", plain.flip(181), 0);
        CHECK.due("heard", plain.hear(), RadioPair.BAD);
    }

    private static void answersZero() {
        CHECK.sentence("0.");
        Link x = new Link(5);
        x.slot();
        for (int i = 0; i < 54; i++) {
            CHECK.due("flip(" + i + ")", x.flip(i), 0);
            CHECK.due("flip(" + i + ") back", x.flip(i), 0);
        }
    }
}
