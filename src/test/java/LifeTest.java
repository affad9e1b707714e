/** What it is: how many calls an object is used for. */
final class LifeTest {
    private static final Check CHECK = new Check("What it is");

    private LifeTest() {
    }

    public static void main(String[] args) {
        fiveHundredAndTwelveCalls();
        noCallEverThrows();
        CHECK.end();
    }

    private static void fiveHundredAndTwelveCalls() {
        CHECK.sentence("An object is used for at most 512 calls after it has been made;");
        RadioPair x = new RadioPair(3);
        for (int call = 1; call < Link.CALLS; call++) {
            CHECK.due("call " + call, x.slot(), call % 2 == 1 ? RadioPair.POLL : RadioPair.SILENT);
        }
        CHECK.due("call 512", x.count(0), 511);
        RadioPair y = new RadioPair(3);
        for (int call = 1; call < Link.CALLS; call += 2) {
            y.slot();
            CHECK.due("call " + (call + 1), y.hear(), RadioPair.HEAD);
        }
    }

    /** What later calls answer is free, but LANGUAGE.md, rule 7, has them end like all others. */
    private static void noCallEverThrows() {
        CHECK.sentence("what later calls answer is free.");
        RadioPair x = new RadioPair(3);
        for (int k = 0; k < 20000; k++) {
            x.write(k & 1, k & 255);
            x.send(k % 3 - 1);
            x.guard(k & 1, k % 7 < 3);
            x.slot();
            x.flip(k % 230);
            x.hear();
            x.read(k & 1, k % 50);
            x.state(k & 1, k % 12);
            x.air(k % 230);
            if (k % 11 == 0) {
                x.next(k & 1);
            }
        }
        CHECK.due("all calls came to an end", 1, 1);
    }
}
