import java.util.List;

/** Promise 8: hear; what each outcome rests on is tested in TermsTakingTest and TermsUsingTest. */
final class Promise08HearTest {
    private static final Check CHECK = new Check("Promise 8");
    private static final int ADDRESS = 5;

    private Promise08HearTest() {
    }

    public static void main(String[] args) {
        theOtherDevice();
        theAirIsEmptyThen();
        silentIfItWasEmpty();
        lost();
        headForPollAndIdle();
        bad();
        againForTheSameTurnBit();
        elseTaken();
        CHECK.end();
    }

    private static void theOtherDevice() {
        CHECK.sentence("The other device, not the one of the last slot, takes the air,");
        Link x = new Link(ADDRESS);
        x.message(0, 10);
        x.message(1, 20);
        x.pass();
        CHECK.due("device 1 heard device 0", x.state(1, 9), 1);
        CHECK.due("device 1 took its message", x.read(1, 0), 10);
        CHECK.same("device 0 did not", List.of(x.state(0, 9), x.state(0, 1)), List.of(0, 0));
        x.pass();
        CHECK.due("device 0 heard device 1", x.state(0, 9), 1);
        CHECK.due("device 0 took its message", x.read(0, 0), 20);
        CHECK.same("device 1 did not", List.of(x.state(1, 9), x.state(1, 1)), List.of(0, 1));
    }

    private static void theAirIsEmptyThen() {
        CHECK.sentence("which is empty then.");
        for (int lostBits = 0; lostBits <= 2; lostBits += 2) {
            Link x = new Link(ADDRESS);
            x.message(0, 1);
            x.slot();
            for (int i = 0; i < lostBits; i++) {
                x.flip(i);
            }
            CHECK.due("heard", x.hear(), lostBits == 0 ? RadioPair.TAKEN : RadioPair.LOST);
            CHECK.due("bits on the air", x.count(1), 0);
            CHECK.due("air(0)", x.air(0), RadioPair.REFUSED);
            CHECK.due("flip(0)", x.flip(0), RadioPair.REFUSED);
            CHECK.due("hear() again", x.hear(), RadioPair.SILENT);
        }
    }

    private static void silentIfItWasEmpty() {
        CHECK.sentence("SILENT if it was empty (and before the first slot);");
        Link x = new Link(ADDRESS);
        CHECK.due("before the first slot", x.hear(), RadioPair.SILENT);
        CHECK.due("and once more", x.hear(), RadioPair.SILENT);
        x.slot();
        CHECK.due("the poll", x.hear(), RadioPair.HEAD);
        CHECK.due("heard already", x.hear(), RadioPair.SILENT);
        CHECK.due("HEARD stays", x.state(1, 9), 1);
        x.slot();
        x.slot();
        x.slot();
        CHECK.due("device 1 did not speak", x.hear(), RadioPair.SILENT);
        CHECK.due("device 0 has not HEARD", x.state(0, 9), 0);
    }

    private static void lost() {
        CHECK.sentence("LOST;");
        int[][] places = {{0, 1}, {1, 2}, {0, 2}, {0, 1, 2}, {21, 22}, {24, 25}, {27, 28}, {51, 53}};
        for (int[] bits : places) {
            Link x = new Link(ADDRESS);
            x.message(0, 1);
            x.slot();
            x.flips(bits);
            CHECK.due("a turned bit of HEAD at " + bits[0] / 3, x.hear(), RadioPair.LOST);
            CHECK.due("not HEARD", x.state(1, 9), 0);
            CHECK.due("not taken", x.state(1, 1), 0);
        }
        Link x = new Link(ADDRESS);
        x.message(0, 1);
        x.slot();
        x.flips(0, 1, 54);
        CHECK.due("with a turned bit in the load too", x.hear(), RadioPair.LOST);
        CHECK.due("nothing is corrected", x.state(1, 6), 0);
    }

    private static void headForPollAndIdle() {
        CHECK.sentence("for a POLL or IDLE HEAD;");
        Link x = new Link(ADDRESS);
        for (int clock = 0; clock < 6; clock++) {
            CHECK.due("slot " + clock, x.slot(), clock % 2 == 0 ? RadioPair.POLL : RadioPair.IDLE);
            CHECK.due("hear " + clock, x.hear(), RadioPair.HEAD);
        }
        // With ack and turn bit 1 it is a HEAD too, though its turn bit is new.
        Link y = new Link(ADDRESS);
        y.slot();
        y.forge(Wire.bare(ADDRESS, 1, 0, 0, 0), Wire.bare(ADDRESS, 1, 1, 1, 0));
        CHECK.due("ack 1, turn 1", y.hear(), RadioPair.HEAD);
        Link z = new Link(ADDRESS);
        z.slot();
        z.forge(Wire.bare(ADDRESS, 1, 0, 0, 0), Wire.bare(ADDRESS, 2, 0, 0, 0));
        CHECK.due("a poll forged to an idle", z.hear(), RadioPair.HEAD);
    }

    private static void bad() {
        CHECK.sentence("BAD;");
        Link plain = Link.plain(ADDRESS);
        plain.message(0, 1);
        plain.slot();
        plain.flip(54);
        CHECK.due("one turned bit in a plain load", plain.hear(), RadioPair.BAD);
        CHECK.same("HEARD and no more", plain.states(1), List.of(0, 0, 0, 0, 0, 0, 0, 0, 0, 1));
        Link guarded = new Link(ADDRESS);
        guarded.message(0, 1);
        guarded.slot();
        guarded.flips(54, 55);
        CHECK.due("two in a fifteen of a guarded one", guarded.hear(), RadioPair.BAD);
        CHECK.same("HEARD and no more", guarded.states(1), List.of(0, 0, 0, 0, 0, 0, 0, 0, 0, 1));
        Link known = Link.plain(ADDRESS);
        known.message(0, 1);
        known.pass();
        known.slot();
        known.slot();
        known.flip(54);
        CHECK.due("bad, though the turn bit was that of the last load", known.hear(), RadioPair.BAD);
    }

    private static void againForTheSameTurnBit() {
        CHECK.sentence("AGAIN if the turn bit was that of the last load;");
        Link x = new Link(ADDRESS);
        x.message(0, 1);
        x.pass();
        for (int k = 0; k < 3; k++) {
            x.slot();
            CHECK.due("device 0 has not heard the answer", x.pass(), RadioPair.AGAIN);
            CHECK.due("the message is taken once", x.state(1, 1), 1);
        }
        Link y = Link.plain(ADDRESS);
        y.message(0, 1);
        y.slot();
        y.forge(Wire.headOnAir(Wire.head(ADDRESS, 4, 1, 0, 1), 0), Wire.headOnAir(Wire.head(ADDRESS, 4, 1, 0, 0), 0));
        CHECK.due("the turn bit 0 before any load", y.hear(), RadioPair.AGAIN);
    }

    private static void elseTaken() {
        CHECK.sentence("else TAKEN.");
        Link x = new Link(ADDRESS);
        x.message(0, Link.counting(0, 20));
        x.message(0, 1);
        for (int k = 0; k < 4; k++) {
            CHECK.due("frame " + k, x.pass(), RadioPair.TAKEN);
            CHECK.due("its answer", x.pass(), RadioPair.HEAD);
        }
        // TAKEN tells of the load; its message may be dropped all the same.
        Link full = new Link(ADDRESS);
        for (int k = 0; k < 8; k++) {
            full.message(0, k);
            CHECK.due("message " + k, full.pass(), RadioPair.TAKEN);
            full.pass();
        }
        CHECK.due("dropped", full.state(1, 5), 2);
    }
}
