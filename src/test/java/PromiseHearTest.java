import java.util.List;

/** Promise 8, hear: what taking the air comes to, and when bits were turned over. */
final class PromiseHearTest {
    private static final Check CHECK = new Check();
    private static final int ADDRESS = 5;

    private PromiseHearTest() {
    }

    public static void main(String[] args) {
        silence();
        headIsVoted();
        headThatIsWrongIsLost();
        lostChangesNothing();
        kindsAreForgedInHead();
        guardedLoadIsMended();
        correctedCountsInBadLoads();
        plainLoadIsNotMended();
        loadsThatAreBad();
        bitsBehindAreNotLookedAt();
        badStillHearsAndAcknowledges();
        againAndTaken();
        kindForgedOverALoad();
        theOtherDeviceTakes();
        CHECK.end();
    }

    private static void silence() {
        RadioPair x = new RadioPair(ADDRESS);
        CHECK.due("before the first slot", x.hear(), RadioPair.SILENT);
        x.slot();
        CHECK.due("the poll", x.hear(), RadioPair.HEAD);
        CHECK.due("the air is empty then", x.count(1), 0);
        CHECK.due("a second time", x.hear(), RadioPair.SILENT);
        x.slot();
        x.slot();
        x.slot();
        CHECK.due("device 1 did not speak", x.hear(), RadioPair.SILENT);
        CHECK.due("so nothing was heard", x.state(0, 9), 0);
    }

    private static void headIsVoted() {
        for (int k = 0; k < 3; k++) {
            RadioPair x = new RadioPair(ADDRESS);
            x.slot();
            for (int i = 0; i < 18; i++) {
                x.flip(3 * i + (i + k) % 3);
            }
            CHECK.due("one of each three turned over", x.hear(), RadioPair.HEAD);
        }
        for (int i = 0; i < 18; i++) {
            for (int spared = 0; spared < 4; spared++) {
                RadioPair x = new RadioPair(ADDRESS);
                x.slot();
                for (int k = 0; k < 3; k++) {
                    if (k != spared) {
                        x.flip(3 * i + k);
                    }
                }
                CHECK.due("two or three of three at " + i, x.hear(), RadioPair.LOST);
            }
        }
    }

    /** Hears a poll whose head was turned into another one, with the remainder that is due. */
    private static int hearHead(int address, int kind, int one, int ack, int turn) {
        RadioPair x = new RadioPair(ADDRESS);
        x.slot();
        Wire.forge(x, Wire.bare(ADDRESS, 1, 0, 0, 0), Wire.headOnAir(Wire.head(address, kind, one, ack, turn), 0));
        return x.hear();
    }

    private static void headThatIsWrongIsLost() {
        for (int address = 0; address < 8; address++) {
            CHECK.due("address " + address, hearHead(address, 1, 1, 0, 0),
                address == ADDRESS ? RadioPair.HEAD : RadioPair.LOST);
        }
        CHECK.due("the bit 1 is 0", hearHead(ADDRESS, 1, 0, 0, 0), RadioPair.LOST);
        CHECK.due("the bit 1 is 0, ack is 1", hearHead(ADDRESS, 1, 0, 1, 0), RadioPair.LOST);
        for (int ack = 0; ack < 2; ack++) {
            for (int turn = 0; turn < 2; turn++) {
                CHECK.due("ack " + ack + ", turn " + turn, hearHead(ADDRESS, 1, 1, ack, turn), RadioPair.HEAD);
            }
        }
    }

    private static void lostChangesNothing() {
        RadioPair x = new RadioPair(ADDRESS);
        Steps.message(x, 1, 1);
        Steps.passes(x, 2);
        x.slot();
        List<Integer> is = Wire.bare(ADDRESS, 1, 1, 0, 2);
        List<Integer> wanted = Wire.headOnAir(Wire.head(ADDRESS, 1, 0, 1, 0), 2);
        Wire.forge(x, is, wanted);
        CHECK.due("lost", x.hear(), RadioPair.LOST);
        CHECK.due("not HEARD", x.state(1, 9), 0);
        CHECK.due("not acknowledged", x.state(1, 3), 2);
        CHECK.due("the air is empty", x.count(1), 0);
        CHECK.due("silent", x.slot(), RadioPair.SILENT);
    }

    private static void kindsAreForgedInHead() {
        for (int kind = 0; kind < 16; kind++) {
            int want = kind == 0 || kind > 4 ? RadioPair.LOST : kind < 3 ? RadioPair.HEAD : RadioPair.BAD;
            CHECK.due("kind " + kind + " without a load", hearHead(ADDRESS, kind, 1, 0, 1), want);
        }
    }

    private static RadioPair spoken(boolean guarded, int... bytes) {
        RadioPair x = new RadioPair(ADDRESS);
        x.guard(0, guarded);
        Steps.message(x, 0, bytes);
        x.slot();
        return x;
    }

    private static void guardedLoadIsMended() {
        int[] bytes = {200, 100, 50};
        int bits = 54 + 6 * 15;
        for (int i = 54; i < bits; i++) {
            RadioPair x = spoken(true, bytes);
            x.flip(i);
            CHECK.due("flip(" + i + ")", x.hear(), RadioPair.TAKEN);
            CHECK.due("corrected", x.state(1, 6), 1);
            CHECK.due("by the one who took it", x.state(0, 6), 0);
            CHECK.due("the byte", x.read(1, 2), 50);
        }
        RadioPair x = spoken(true, bytes);
        for (int i = 54; i < bits; i += 16) {
            x.flip(i);
        }
        CHECK.due("one in each fifteen", x.hear(), RadioPair.TAKEN);
        CHECK.due("corrected", x.state(1, 6), 6);
        CHECK.due("the length", x.next(1), 3);
        for (int i = 1; i < 15; i++) {
            RadioPair y = spoken(true, bytes);
            y.flip(54);
            y.flip(54 + i);
            CHECK.due("two in a fifteen", y.hear(), RadioPair.BAD);
            CHECK.due("corrected", y.state(1, 6), 0);
        }
    }

    private static void correctedCountsInBadLoads() {
        int[][] runs = {{54, 69, 70}, {54, 55, 69}, {54, 55, 69, 84}, {54, 69, 70, 84}};
        int[] corrected = {1, 1, 2, 2};
        for (int k = 0; k < runs.length; k++) {
            RadioPair x = spoken(true, 200, 100, 50);
            for (int i : runs[k]) {
                x.flip(i);
            }
            CHECK.due("run " + k, x.hear(), RadioPair.BAD);
            CHECK.due("run " + k + ": corrected", x.state(1, 6), corrected[k]);
            Steps.pass(x);
            CHECK.due("run " + k + ": sent again", Steps.pass(x), RadioPair.TAKEN);
            CHECK.due("run " + k + ": it stays", x.state(1, 6), corrected[k]);
        }
        // Three in a fifteen can look like another one: mended, but the load's remainder tells.
        RadioPair x = spoken(true, 200, 100, 50);
        List<Integer> ten = Wire.withRem(Wire.number(1, 10), 53, 5);
        int turned = 0;
        for (int i = 0; i < 15; i++) {
            if (ten.get(i) == 1 && turned < 3) {
                x.flip(54 + i);
                turned++;
            }
        }
        CHECK.due("a wrong ten", x.hear(), RadioPair.BAD);
        CHECK.due("mended wrongly", x.state(1, 6), 1);
    }

    private static void plainLoadIsNotMended() {
        for (int i = 54; i < 54 + 24 + 8 * 4; i++) {
            RadioPair x = spoken(false, 200, 100, 50);
            x.flip(i);
            CHECK.due("plain: flip(" + i + ")", x.hear(), RadioPair.BAD);
            CHECK.due("nothing corrected", x.state(1, 6), 0);
            CHECK.due("nothing taken", x.state(1, 1), 0);
        }
    }

    /** Hears device 0's first frame, of bytes 2, 7, 9, with another load of as many bits or fewer. */
    private static RadioPair forged(boolean guarded, List<Integer> load) {
        RadioPair x = spoken(guarded, 7, 9);
        List<Integer> head = Wire.head(ADDRESS, guarded ? 3 : 4, 1, 0, 1);
        Wire.forge(x, Wire.frame(head, Wire.load(14, 2, 7, 9), 0), Wire.frame(head, load, 0));
        return x;
    }

    private static void loadsThatAreBad() {
        for (int k = 0; k < 2; k++) {
            boolean guarded = k == 0;
            for (int mark = 0; mark < 4; mark++) {
                boolean right = mark == 1 || mark == 2;
                CHECK.due("mark " + mark, forged(guarded, Wire.load(12 + mark, 2, 1, 1)).hear(),
                    right ? RadioPair.TAKEN : RadioPair.BAD);
                CHECK.due("no bytes, mark " + mark, forged(guarded, Wire.load(mark)).hear(), RadioPair.BAD);
            }
            List<Integer> shorter = Wire.load(14, 2, 1, 1);
            shorter.set(47, 1 - shorter.get(47));
            CHECK.due("a wrong remainder", forged(guarded, shorter).hear(), RadioPair.BAD);
        }
        // 48 bits of a plain load: a number that says four bytes asks for 56.
        List<Integer> cut = Wire.load(18, 3, 1, 1, 1).subList(0, 48);
        CHECK.due("fewer bits than the number says", forged(false, cut).hear(), RadioPair.BAD);
        CHECK.due("many fewer", forged(false, Wire.load(63 * 4 + 2, 2, 1, 1)).hear(), RadioPair.BAD);
        // Guarded, 48 bits fill five tens: four bytes more than fit.
        CHECK.due("guarded and cut", forged(true, cut).hear(), RadioPair.BAD);
        CHECK.due("cut where zeros would be", forged(false, endsInZeros().subList(0, 48)).hear(), RadioPair.BAD);
        // The last four bits of the sixth ten fill it behind 56 bits: no remainder of the load has them.
        RadioPair x = spoken(true, 7, 9, 1);
        x.flip(54 + 5 * 15 + 8);
        x.flip(54 + 5 * 15 + 9);
        CHECK.due("a fifteen past mending, but for the fill", x.hear(), RadioPair.BAD);
    }

    /** A load of four bytes whose last eight bits, of the remainder, are zeros. */
    private static List<Integer> endsInZeros() {
        for (int b = 0; b < 65536; b++) {
            List<Integer> load = Wire.load(18, 3, 1, b % 256, b / 256);
            if (!load.subList(48, 56).contains(1)) {
                return load;
            }
        }
        CHECK.due("a load that ends in zeros", 0, 1);
        return Wire.load(18, 3, 1, 1, 1);
    }

    private static void bitsBehindAreNotLookedAt() {
        for (int k = 0; k < 2; k++) {
            RadioPair x = forged(k == 0, Wire.load(10, 1, 33));
            CHECK.due("a shorter load", x.hear(), RadioPair.TAKEN);
            CHECK.due("its byte", x.read(1, 0), 33);
            CHECK.due("its length", x.next(1), 1);
        }
    }

    private static void badStillHearsAndAcknowledges() {
        RadioPair x = Steps.plainLink(ADDRESS);
        Steps.message(x, 0, 1);
        Steps.message(x, 1, 2);
        x.slot();
        x.hear();
        CHECK.due("GOOD of device 1", x.state(1, 8), 1);
        x.slot();
        x.flip(60);
        CHECK.due("the answer is bad", x.hear(), RadioPair.BAD);
        CHECK.due("HEARD", x.state(0, 9), 1);
        CHECK.due("not GOOD", x.state(0, 8), 0);
        CHECK.due("but acknowledged", x.state(0, 3), 0);
    }

    private static void againAndTaken() {
        RadioPair x = new RadioPair(ADDRESS);
        Steps.message(x, 0, 1);
        CHECK.due("the first time", Steps.pass(x), RadioPair.TAKEN);
        x.slot();
        CHECK.due("unheard by device 0: again", Steps.pass(x), RadioPair.AGAIN);
        CHECK.due("GOOD", x.state(1, 8), 1);
        CHECK.due("HEARD", x.state(1, 9), 1);
        CHECK.due("taken once", x.state(1, 1), 1);
        CHECK.due("acknowledged", Steps.pass(x), RadioPair.HEAD);
        CHECK.due("none waits", x.state(0, 3), 0);
        Steps.message(x, 0, 1);
        CHECK.due("a new frame of the same bytes", Steps.pass(x), RadioPair.TAKEN);
        // A first load with turn bit 0 is that of the last load, which is 0 at first.
        RadioPair y = spoken(false, 7, 9);
        Wire.forge(y, Wire.headOnAir(Wire.head(ADDRESS, 4, 1, 0, 1), 0),
            Wire.headOnAir(Wire.head(ADDRESS, 4, 1, 0, 0), 0));
        CHECK.due("turn bit 0 at first", y.hear(), RadioPair.AGAIN);
        CHECK.due("nothing taken", y.state(1, 1), 0);
        // The turn bit of a bare frame is not that of a load.
        RadioPair z = new RadioPair(ADDRESS);
        z.slot();
        Wire.forge(z, Wire.bare(ADDRESS, 1, 0, 0, 0), Wire.bare(ADDRESS, 1, 0, 1, 0));
        CHECK.due("a poll with turn bit 1", z.hear(), RadioPair.HEAD);
        z.slot();
        Steps.message(z, 0, 1);
        CHECK.due("a load with turn bit 1", Steps.pass(z), RadioPair.TAKEN);
    }

    private static void kindForgedOverALoad() {
        // Ten fifteens taken as a plain load have room for fifteen bytes, more than any frame sent.
        RadioPair x = spoken(true, Steps.counting(0, 8));
        List<Integer> is =
            Wire.frame(Wire.head(ADDRESS, 3, 1, 0, 1), Wire.load(38, 8, 0, 1, 2, 3, 4, 5, 6, 7), 0);
        List<Integer> wanted = Wire.frame(Wire.head(ADDRESS, 4, 1, 0, 1),
            Wire.load(62, 14, 1, 2, 3, 4, 5, 6, 7, 8, 9, 10, 11, 12, 13, 14), 0);
        Wire.forge(x, is, wanted);
        CHECK.due("guarded taken as plain", x.hear(), RadioPair.TAKEN);
        CHECK.due("its last byte", x.read(1, 13), 14);
        CHECK.due("its length", x.next(1), 14);
        // 54 + 56 bits: three whole fifteens and eleven bits that are none, and are not mended.
        RadioPair y = spoken(false, 7, 8, 9);
        is = Wire.frame(Wire.head(ADDRESS, 4, 1, 0, 1), Wire.load(18, 3, 7, 8, 9), 0);
        wanted = Wire.frame(Wire.head(ADDRESS, 3, 1, 0, 1), Wire.load(6, 0), 0).subList(0, 54 + 45);
        Wire.forge(y, is, wanted);
        CHECK.due("plain taken as guarded: 30 bits for 32", y.hear(), RadioPair.BAD);
        CHECK.due("nothing corrected", y.state(1, 6), 0);
        RadioPair z = spoken(true, 1);
        is = Wire.headOnAir(Wire.head(ADDRESS, 3, 1, 0, 1), 0);
        Wire.forge(z, is, Wire.bare(ADDRESS, 2, 0, 1, 0));
        CHECK.due("a load under the head of an idle", z.hear(), RadioPair.HEAD);
        CHECK.due("nothing taken", z.state(1, 1), 0);
        CHECK.due("not GOOD", z.state(1, 8), 0);
    }

    private static void theOtherDeviceTakes() {
        RadioPair x = new RadioPair(ADDRESS);
        Steps.pass(x);
        CHECK.due("device 1 heard", x.state(1, 9), 1);
        CHECK.due("device 0 did not", x.state(0, 9), 0);
        Steps.pass(x);
        CHECK.due("device 0 heard", x.state(0, 9), 1);
        CHECK.due("device 1 spoke", x.state(1, 9), 0);
    }
}
