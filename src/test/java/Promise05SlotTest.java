import java.util.List;

/** Promise 5: slot. */
final class Promise05SlotTest {
    private static final Check CHECK = new Check("Promise 5");
    private static final int ADDRESS = 4;

    private Promise05SlotTest() {
    }

    public static void main(String[] args) {
        theAirIsEmptyFirst();
        theFrameIsOnTheAir();
        theClockIsOneMore();
        answersTheKind();
        silentIfItDidNotSpeak();
        CHECK.end();
    }

    private static void theAirIsEmptyFirst() {
        CHECK.sentence("The next slot: the air is empty;");
        Link x = new Link(ADDRESS);
        x.message(0, 1);
        x.slot();
        CHECK.due("a load that nobody hears", x.count(1), 54 + 60);
        x.slot();
        CHECK.due("nothing is left of it in a silent slot", x.count(1), 0);
        CHECK.due("no first bit", x.air(0), RadioPair.REFUSED);
        CHECK.due("no bit to turn over", x.flip(0), RadioPair.REFUSED);
        CHECK.due("nothing to hear", x.hear(), RadioPair.SILENT);
        x.pass();
        x.slot();
        CHECK.due("a bare frame", x.count(1), 54);
        Link y = new Link(ADDRESS);
        y.message(0, 1);
        y.passes(2);
        y.message(1, 1);
        y.pass();
        y.slot();
        CHECK.due("a load", y.count(1), 54 + 60);
        y.slot();
        CHECK.due("none of its bits behind a poll", y.count(1), 54);
        CHECK.due("the first bit behind the poll", y.air(54), RadioPair.REFUSED);
    }

    private static void theFrameIsOnTheAir() {
        CHECK.sentence("the device whose turn it is SPEAKS, its frame is on the air;");
        Link x = new Link(ADDRESS);
        x.guard(1, false);
        x.message(0, 77);
        x.message(1, 88);
        x.slot();
        CHECK.same("device 0's", x.bits(), Wire.frame(Wire.head(ADDRESS, 3, 1, 0, 1), Wire.load(10, 1, 77), 0));
        x.hear();
        x.slot();
        CHECK.same("device 1's", x.bits(), Wire.frame(Wire.head(ADDRESS, 4, 1, 1, 1), Wire.load(10, 1, 88), 1));
        x.hear();
        x.slot();
        CHECK.same("device 0's again", x.bits(), Wire.bare(ADDRESS, 1, 1, 1, 2));
    }

    private static void theClockIsOneMore() {
        CHECK.sentence("the clock is one more.");
        Link x = new Link(ADDRESS);
        x.slot();
        CHECK.due("behind a poll", x.count(0), 1);
        x.slot();
        CHECK.due("behind a silent slot", x.count(0), 2);
        x.message(0, 1);
        x.pass();
        CHECK.due("behind a load that is heard", x.count(0), 3);
        x.slot();
        CHECK.due("behind an idle", x.count(0), 4);
        for (int clock = 5; clock <= 240; clock++) {
            x.slot();
            CHECK.due("behind slot " + clock, x.count(0), clock);
        }
    }

    private static void answersTheKind() {
        CHECK.sentence("The kind of the frame,");
        Link x = new Link(ADDRESS);
        x.guard(1, false);
        CHECK.due("device 0, nothing to send", x.slot(), RadioPair.POLL);
        x.hear();
        CHECK.due("device 1, nothing to send", x.slot(), RadioPair.IDLE);
        x.hear();
        x.message(0, 1);
        x.message(1, 1);
        CHECK.due("device 0, guarded", x.slot(), RadioPair.GUARDED);
        x.hear();
        CHECK.due("device 1, plain", x.slot(), RadioPair.PLAIN);
        x.hear();
        CHECK.due("device 0, all is acknowledged", x.slot(), RadioPair.POLL);
        CHECK.same("as the frame on the air says", x.bits(), Wire.bare(ADDRESS, 1, 1, 1, 4));
    }

    private static void silentIfItDidNotSpeak() {
        CHECK.sentence("SILENT if it did not speak.");
        Link x = new Link(ADDRESS);
        x.message(1, 1);
        x.slot();
        CHECK.due("device 1 has not heard the poll", x.slot(), RadioPair.SILENT);
        x.slot();
        x.flips(6, 7);
        x.hear();
        CHECK.due("device 1 heard a poll that is LOST", x.slot(), RadioPair.SILENT);
        CHECK.same("nothing of it has changed", x.states(1), List.of(1, 0, 0, 0, 0, 0, 0, 0, 0, 0));
        CHECK.due("device 0 speaks in any case", x.slot(), RadioPair.POLL);
        x.hear();
        CHECK.due("device 1 has heard", x.slot(), RadioPair.GUARDED);
    }
}
