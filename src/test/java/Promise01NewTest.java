import java.util.List;

/** Promise 1: a new object. */
final class Promise01NewTest {
    private static final Check CHECK = new Check("Promise 1");

    private Promise01NewTest() {
    }

    public static void main(String[] args) {
        addressIsClamped();
        bothAreGuarded();
        CHECK.end();
    }

    private static void addressIsClamped() {
        CHECK.sentence("address: the link's, clamped to 1 .. 7.");
        int[][] addresses = {{Integer.MIN_VALUE, 1}, {-8, 1}, {-1, 1}, {0, 1}, {1, 1}, {2, 2}, {3, 3}, {4, 4}, {5, 5},
            {6, 6}, {7, 7}, {8, 7}, {9, 7}, {16, 7}, {Integer.MAX_VALUE, 7}};
        for (int[] pair : addresses) {
            Link x = new Link(pair[0]);
            x.slot();
            CHECK.same("a poll of RadioPair(" + pair[0] + ")", x.bits(), Wire.bare(pair[1], RadioPair.POLL, 0, 0, 0));
            CHECK.due("RadioPair(" + pair[0] + ") hears itself", x.hear(), RadioPair.HEAD);
        }
    }

    private static void bothAreGuarded() {
        CHECK.sentence("Both devices are guarded.");
        Link x = new Link(1);
        x.message(0, 1);
        x.message(1, 2);
        CHECK.due("first frame of device 0", x.slot(), RadioPair.GUARDED);
        x.hear();
        CHECK.due("first frame of device 1", x.slot(), RadioPair.GUARDED);
        Link y = new Link(1);
        CHECK.same("beside it a new object has nothing", List.of(y.count(0), y.count(1), y.count(2), y.count(3)),
            List.of(0, 0, 0, 0));
    }
}
