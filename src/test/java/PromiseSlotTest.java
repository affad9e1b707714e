import java.util.List;

/** Promise 5, slot: who speaks, and what. */
final class PromiseSlotTest {
    private static final Check CHECK = new Check();

    private PromiseSlotTest() {
    }

    public static void main(String[] args) {
        pollsAndIdles();
        deviceOneMustHaveHeard();
        theAirIsEmptyFirst();
        guardedFramesHaveNine();
        plainFramesHaveThirteen();
        frameIsOfOneMessage();
        unacknowledgedComesAgain();
        turnBitStaysInBareFrames();
        whiteGoesRoundAfter64Slots();
        CHECK.end();
    }

    private static void air(String what, RadioPair x, List<Integer> want) {
        List<Integer> got = Wire.onAir(x);
        CHECK.due(what + (got.equals(want) ? "" : ": " + got + " for " + want), got.equals(want) ? 1 : 0, 1);
    }

    private static void pollsAndIdles() {
        RadioPair x = new RadioPair(4);
        for (int clock = 0; clock < 6; clock++) {
            CHECK.due("clock", x.count(0), clock);
            CHECK.due("slot " + clock, x.slot(), clock % 2 == 0 ? RadioPair.POLL : RadioPair.IDLE);
            CHECK.due("hear " + clock, x.hear(), RadioPair.HEAD);
        }
    }

    private static void deviceOneMustHaveHeard() {
        RadioPair x = new RadioPair(4);
        Steps.message(x, 1, 5);
        CHECK.due("device 0 polls", x.slot(), RadioPair.POLL);
        CHECK.due("unheard: device 1", x.slot(), RadioPair.SILENT);
        CHECK.due("no bits", x.count(1), 0);
        CHECK.due("the clock goes on", x.count(0), 2);
        CHECK.due("its message waits", x.state(1, 0), 1);
        CHECK.due("device 0 need not have heard", x.slot(), RadioPair.POLL);
        x.hear();
        CHECK.due("heard: device 1", x.slot(), RadioPair.GUARDED);
        CHECK.due("HEARD is over", x.state(1, 9), 0);
        x.slot();
        CHECK.due("unheard again: device 1", x.slot(), RadioPair.SILENT);
    }

    private static void theAirIsEmptyFirst() {
        RadioPair x = new RadioPair(4);
        Steps.message(x, 0, 1);
        x.slot();
        CHECK.due("a loaded frame", x.count(1), 54 + 60);
        x.slot();
        CHECK.due("nothing is left of it", x.count(1), 0);
        x.slot();
        x.hear();
        x.slot();
        CHECK.due("a bare frame alone", x.count(1), 54);
    }

    private static void guardedFramesHaveNine() {
        RadioPair x = new RadioPair(4);
        Steps.message(x, 0, Steps.counting(0, 17));
        x.slot();
        CHECK.due("length byte and eight", x.state(0, 3), 9);
        CHECK.due("left", x.state(0, 2), 9);
        air("its first frame", x, Wire.frame(Wire.head(4, 3, 1, 0, 1), Wire.load(38, 17, 0, 1, 2, 3, 4, 5, 6, 7), 0));
        x.hear();
        Steps.pass(x);
        x.slot();
        CHECK.due("the other nine", x.state(0, 3), 9);
        CHECK.due("none left", x.state(0, 2), 0);
        air("its second frame", x,
            Wire.frame(Wire.head(4, 3, 1, 0, 0), Wire.load(37, 8, 9, 10, 11, 12, 13, 14, 15, 16), 2));
    }

    private static void plainFramesHaveThirteen() {
        RadioPair x = Steps.plainLink(4);
        Steps.message(x, 0, Steps.counting(100, 13));
        x.slot();
        CHECK.due("length byte and twelve", x.state(0, 3), 13);
        CHECK.due("bits", x.count(1), 54 + 24 + 8 * 13);
        air("its first frame", x, Wire.frame(Wire.head(4, 4, 1, 0, 1),
            Wire.load(54, 13, 100, 101, 102, 103, 104, 105, 106, 107, 108, 109, 110, 111), 0));
        x.hear();
        Steps.pass(x);
        x.slot();
        CHECK.due("the one left", x.state(0, 3), 1);
        CHECK.due("bits", x.count(1), 54 + 24 + 8);
        air("its second frame", x, Wire.frame(Wire.head(4, 4, 1, 0, 0), Wire.load(5, 112), 2));
    }

    private static void frameIsOfOneMessage() {
        RadioPair x = new RadioPair(4);
        Steps.message(x, 0, 1);
        Steps.message(x, 0, 2);
        x.slot();
        CHECK.due("length byte and one", x.state(0, 3), 2);
        CHECK.due("the other waits", x.state(0, 0), 1);
        x.hear();
        Steps.pass(x);
        x.slot();
        air("the second message begins", x, Wire.frame(Wire.head(4, 3, 1, 0, 0), Wire.load(10, 1, 2), 2));
    }

    private static void unacknowledgedComesAgain() {
        RadioPair x = new RadioPair(4);
        Steps.message(x, 0, 1, 2);
        Steps.message(x, 1, 3);
        x.slot();
        x.slot();
        CHECK.due("again", x.slot(), RadioPair.GUARDED);
        air("whitened by the new clock", x, Wire.frame(Wire.head(4, 3, 1, 0, 1), Wire.load(14, 2, 1, 2), 2));
        CHECK.due("heard at last", x.hear(), RadioPair.TAKEN);
        x.slot();
        air("device 1 acknowledges", x, Wire.frame(Wire.head(4, 3, 1, 1, 1), Wire.load(10, 1, 3), 3));
        // The answer is turned into noise, so device 0 has not been told.
        x.flip(0);
        x.flip(1);
        CHECK.due("the answer is lost", x.hear(), RadioPair.LOST);
        CHECK.due("again", x.slot(), RadioPair.GUARDED);
        CHECK.due("once more", x.hear(), RadioPair.AGAIN);
        x.slot();
        air("the same frame, acknowledging", x, Wire.frame(Wire.head(4, 3, 1, 1, 1), Wire.load(10, 1, 3), 5));
        CHECK.due("device 0 takes it", x.hear(), RadioPair.TAKEN);
        CHECK.due("and polls", x.slot(), RadioPair.POLL);
        air("with the ack bit", x, Wire.bare(4, RadioPair.POLL, 1, 1, 6));
        CHECK.due("unheard", x.slot(), RadioPair.SILENT);
        x.slot();
        air("the ack bit is sent once", x, Wire.bare(4, RadioPair.POLL, 0, 1, 8));
        CHECK.due("device 1 hears", x.hear(), RadioPair.HEAD);
        x.slot();
        air("ack 0 now: again", x, Wire.frame(Wire.head(4, 3, 1, 0, 1), Wire.load(10, 1, 3), 9));
    }

    private static void turnBitStaysInBareFrames() {
        RadioPair x = new RadioPair(4);
        Steps.message(x, 0, 1);
        Steps.passes(x, 2);
        for (int clock = 2; clock < 4; clock++) {
            x.slot();
            air("bare at " + clock, x, Wire.bare(4, 1 + clock % 2, 0, clock == 2 ? 1 : 0, clock));
            x.hear();
        }
    }

    private static void whiteGoesRoundAfter64Slots() {
        for (int clock : new int[] {1, 2, 31, 63, 64, 65, 130}) {
            RadioPair x = new RadioPair(4);
            Steps.passes(x, clock);
            x.slot();
            air("clock " + clock, x, Wire.bare(4, 1 + clock % 2, 0, 0, clock));
            CHECK.due("clock " + clock + ": hear()", x.hear(), RadioPair.HEAD);
        }
    }
}
