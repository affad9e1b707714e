import java.util.ArrayList;
import java.util.List;

/** Terms, TAKING: how the other device reads the row of bits, whatever was turned over (promises 7 and 8). */
final class TermsTakingTest {
    private static final Check CHECK = new Check("Terms");
    private static final int ADDRESS = 5;
    private static final int HEAD_END = 54;

    private TermsTakingTest() {
    }

    public static void main(String[] args) {
        takenWithTheClockOfTheSlot();
        noBitsNothingTaken();
        twoOrThreeOfThreeBits();
        headIsWhitenedAgain();
        remainderOfHead();
        addressOfTheLink();
        theBitOne();
        kindOneToFour();
        shortestFrame();
        loadOnlyForKindsThreeAndFour();
        oneTurnedBitIsMended();
        twoTurnedBitsAreBad();
        tensOneBehindTheOther();
        plainIsNotMended();
        loadIsWhitenedAgain();
        fewerBitsThanTheNumberSays();
        lowestTwoBits();
        noBytes();
        remainderOfLoad();
        bitsBehind();
        correctedInABadLoad();
        CHECK.end();
    }

    /** A link whose device 0 has just sent its first frame, of all these bytes. */
    private static Link spoken(boolean guarded, int... bytes) {
        Link x = new Link(ADDRESS);
        x.guard(0, guarded);
        x.message(0, bytes);
        x.slot();
        return x;
    }

    private static List<Integer> frame(boolean guarded, List<Integer> load) {
        return Wire.frame(Wire.head(ADDRESS, guarded ? 3 : 4, 1, 0, 1), load, 0);
    }

    /** Device 0's first frame, of bytes 2, 7, 9, with another load of as many bits or fewer. */
    private static Link forged(boolean guarded, List<Integer> load) {
        return spoken(guarded, 7, 9).forge(frame(guarded, Wire.load(14, 2, 7, 9)), frame(guarded, load));
    }

    /** Hears a poll whose head was turned into another one, with the remainder that is due. */
    private static int hearHead(int own, int address, int kind, int one, int ack, int turn) {
        Link x = new Link(own);
        x.slot();
        return x.forge(Wire.bare(own, 1, 0, 0, 0), Wire.headOnAir(Wire.head(address, kind, one, ack, turn), 0)).hear();
    }

    private static void takenWithTheClockOfTheSlot() {
        CHECK.sentence("TAKING the air by the other device (c the same clock).");
        for (int clock : new int[] {0, 1, 2, 62, 63, 64, 65, 127, 128}) {
            Link x = new Link(ADDRESS);
            x.reach(clock);
            x.message(clock % 2, 200, 3);
            CHECK.due("clock " + clock + ": a load", x.slot(), RadioPair.GUARDED);
            CHECK.due("clock " + clock + ": taken", x.hear(), RadioPair.TAKEN);
            CHECK.due("by the other device", x.read(1 - clock % 2, 0), 200);
            CHECK.due("not by its own", x.read(clock % 2, 0), RadioPair.REFUSED);
        }
    }

    private static void noBitsNothingTaken() {
        CHECK.sentence("No bits: nothing is taken.");
        Link x = new Link(ADDRESS);
        x.message(0, 1);
        CHECK.due("before the first slot", x.hear(), RadioPair.SILENT);
        CHECK.same("device 0", x.states(0), List.of(1, 0, 0, 0, 0, 0, 0, 0, 0, 0));
        CHECK.same("device 1", x.states(1), List.of(0, 0, 0, 0, 0, 0, 0, 0, 0, 0));
        x.slot();
        x.slot();
        CHECK.due("device 1 was silent", x.hear(), RadioPair.SILENT);
        CHECK.same("device 0", x.states(0), List.of(0, 0, 0, 2, 0, 0, 0, 1, 0, 0));
        CHECK.same("device 1", x.states(1), List.of(0, 0, 0, 0, 0, 0, 0, 0, 0, 0));
    }

    private static void twoOrThreeOfThreeBits() {
        CHECK.sentence("HEAD: of each three bits the one that two or three of them are;");
        for (int k = 0; k < 3; k++) {
            Link x = new Link(ADDRESS);
            x.slot();
            for (int i = 0; i < 18; i++) {
                x.flip(3 * i + (i + k) % 3);
            }
            CHECK.due("one of each three turned over", x.hear(), RadioPair.HEAD);
        }
        for (int i = 0; i < 18; i++) {
            // The one of three bits that is spared; with 3, none is.
            for (int spared = 0; spared < 4; spared++) {
                Link x = new Link(ADDRESS);
                x.slot();
                for (int k = 0; k < 3; k++) {
                    if (k != spared) {
                        x.flip(3 * i + k);
                    }
                }
                CHECK.due("two or three turned over at " + i, x.hear(), RadioPair.LOST);
            }
        }
    }

    private static void headIsWhitenedAgain() {
        CHECK.sentence("whitened again;");
        for (int clock = 0; clock < 130; clock++) {
            Link x = new Link(ADDRESS);
            x.reach(clock);
            x.slot();
            CHECK.due("the head at clock " + clock, x.hear(), RadioPair.HEAD);
        }
    }

    private static void remainderOfHead() {
        CHECK.sentence("the last 8 are the REMAINDER of the first 10,");
        for (int i = 8; i < 18; i++) {
            for (int k = i; k < 18; k++) {
                // Ack and turn bit or the remainder's own bits, alone and in pairs.
                Link x = new Link(ADDRESS);
                x.slot();
                x.flips(3 * i, 3 * i + 1);
                if (k > i) {
                    x.flips(3 * k, 3 * k + 2);
                }
                CHECK.due("bits " + i + " and " + k + " turned over", x.hear(), RadioPair.LOST);
            }
        }
        for (int ack = 0; ack < 2; ack++) {
            for (int turn = 0; turn < 2; turn++) {
                CHECK.due("ack " + ack + ", turn " + turn + " and the remainder of them",
                    hearHead(ADDRESS, ADDRESS, 1, 1, ack, turn), RadioPair.HEAD);
            }
        }
    }

    private static void addressOfTheLink() {
        CHECK.sentence("the address is the link's,");
        for (int own = 1; own <= 7; own++) {
            for (int address = 0; address < 8; address++) {
                CHECK.due("address " + address + " heard at " + own, hearHead(own, address, 1, 1, 0, 0),
                    address == own ? RadioPair.HEAD : RadioPair.LOST);
            }
        }
    }

    private static void theBitOne() {
        CHECK.sentence("the fourth part is the bit 1,");
        for (int ack = 0; ack < 2; ack++) {
            for (int kind = 1; kind <= 4; kind++) {
                CHECK.due("the bit 1 is 0 in kind " + kind, hearHead(ADDRESS, ADDRESS, kind, 0, ack, 1), RadioPair.LOST);
            }
        }
    }

    private static void kindOneToFour() {
        CHECK.sentence("and the kind is 1 .. 4: else the frame is LOST.");
        for (int kind = 0; kind < 16; kind++) {
            boolean known = kind >= 1 && kind <= 4;
            boolean lost = hearHead(ADDRESS, ADDRESS, kind, 1, 0, 1) == RadioPair.LOST;
            CHECK.due("kind " + kind + " is LOST", lost ? 1 : 0, known ? 0 : 1);
        }
    }

    private static void shortestFrame() {
        CHECK.sentence("(A frame is never shorter than its HEAD.)");
        Link x = new Link(ADDRESS);
        for (int clock = 0; clock < 4; clock++) {
            x.slot();
            CHECK.due("a bare frame is its HEAD", x.count(1), 54);
            x.flip(53);
            CHECK.due("whose last bit is there", x.hear(), RadioPair.HEAD);
        }
    }

    private static void loadOnlyForKindsThreeAndFour() {
        CHECK.sentence("LOAD, for kind 3 or 4:");
        for (int kind = 1; kind <= 4; kind++) {
            CHECK.due("kind " + kind + " with no bits behind HEAD", hearHead(ADDRESS, ADDRESS, kind, 1, 0, 1),
                kind < 3 ? RadioPair.HEAD : RadioPair.BAD);
        }
        for (int kind = 1; kind <= 2; kind++) {
            Link x = spoken(false, 7, 9);
            x.forge(Wire.headOnAir(Wire.head(ADDRESS, 4, 1, 0, 1), 0), Wire.bare(ADDRESS, kind, 0, 1, 0));
            CHECK.due("kind " + kind + " before a load", x.hear(), RadioPair.HEAD);
            CHECK.same("nothing but HEARD", x.states(1), List.of(0, 0, 0, 0, 0, 0, 0, 0, 0, 1));
        }
        Link x = spoken(true, Link.counting(0, 8));
        // Ten fifteens read as a plain load have room for fifteen bytes, more than any frame sent.
        List<Integer> is = frame(true, Wire.load(38, 8, 0, 1, 2, 3, 4, 5, 6, 7));
        x.forge(is, frame(false, Wire.load(62, 14, 1, 2, 3, 4, 5, 6, 7, 8, 9, 10, 11, 12, 13, 14)));
        CHECK.due("GUARDED taken as PLAIN", x.hear(), RadioPair.TAKEN);
        CHECK.due("its last byte", x.read(1, 13), 14);
    }

    private static void oneTurnedBitIsMended() {
        CHECK.sentence("GUARDED: each fifteen: if its last 5 are not the REMAINDER of the first ten: if turning over "
            + "just one of the fifteen bits makes it so, that one is turned over and counted as CORRECTED,");
        int end = HEAD_END + 6 * 15;
        Link none = spoken(true, 200, 100, 50);
        none.hear();
        CHECK.due("nothing turned over, nothing corrected", none.state(1, 6), 0);
        for (int i = HEAD_END; i < end; i++) {
            Link x = spoken(true, 200, 100, 50);
            x.flip(i);
            CHECK.due("flip(" + i + ")", x.hear(), RadioPair.TAKEN);
            CHECK.due("corrected", x.state(1, 6), 1);
            CHECK.same("the bytes", List.of(x.read(1, 0), x.read(1, 1), x.read(1, 2)), List.of(200, 100, 50));
        }
        Link all = spoken(true, 200, 100, 50);
        for (int i = HEAD_END; i < end; i += 16) {
            all.flip(i);
        }
        CHECK.due("one in each of six fifteens", all.hear(), RadioPair.TAKEN);
        CHECK.due("corrected", all.state(1, 6), 6);
        Link three = spoken(true, 200, 100, 50);
        // A fifteen that holds has four ones or more: with three of them turned over, the fourth looks wrong.
        three.flips(ones(HEAD_END, Wire.withRem(Wire.number(1, 10), 53, 5), 3));
        CHECK.due("three in a fifteen, one bit from another one", three.hear(), RadioPair.BAD);
        CHECK.due("turned over all the same", three.state(1, 6), 1);
    }

    /** The places on the air of the first `most` ones of a row that begins at `start`. */
    private static int[] ones(int start, List<Integer> row, int most) {
        List<Integer> places = new ArrayList<>();
        for (int i = 0; i < row.size() && places.size() < most; i++) {
            if (row.get(i) == 1) {
                places.add(start + i);
            }
        }
        return places.stream().mapToInt(place -> place).toArray();
    }

    private static void twoTurnedBitsAreBad() {
        CHECK.sentence("else the load is BAD;");
        for (int i = 0; i < 15; i++) {
            for (int k = i + 1; k < 15; k++) {
                Link x = spoken(true, 200, 100, 50);
                x.flips(HEAD_END + 30 + i, HEAD_END + 30 + k);
                CHECK.due("bits " + i + " and " + k + " of the third fifteen", x.hear(), RadioPair.BAD);
                CHECK.due("corrected", x.state(1, 6), 0);
                CHECK.due("taken", x.state(1, 1), 0);
            }
        }
        // 56 bits: the last four of the sixth ten are zeros that fill it, and count as much as the others.
        Link x = spoken(true, 7, 9, 1);
        x.flips(HEAD_END + 5 * 15 + 8, HEAD_END + 5 * 15 + 9);
        CHECK.due("two in the filling of the last ten", x.hear(), RadioPair.BAD);
    }

    private static void tensOneBehindTheOther() {
        CHECK.sentence("then the tens, one behind the other.");
        for (int size = 1; size <= 8; size++) {
            int[] bytes = Link.counting(240 - 30 * size, size);
            Link x = spoken(true, bytes);
            CHECK.due(size + " bytes", x.hear(), RadioPair.TAKEN);
            for (int i = 0; i < size; i++) {
                CHECK.due("byte " + i + " of " + size, x.read(1, i), bytes[i]);
            }
            CHECK.due("its length", x.next(1), size);
        }
        // 56 bits of a plain load are three fifteens and eleven bits that are none.
        Link x = spoken(false, 7, 8, 9);
        List<Integer> threeFifteens = frame(true, Wire.load(6, 0)).subList(0, HEAD_END + 45);
        x.forge(frame(false, Wire.load(18, 3, 7, 8, 9)), threeFifteens);
        CHECK.due("30 bits of tens where 32 are due", x.hear(), RadioPair.BAD);
        CHECK.due("nothing corrected", x.state(1, 6), 0);
    }

    private static void plainIsNotMended() {
        CHECK.sentence("PLAIN: as they are.");
        Link whole = spoken(false, 200, 100, 50);
        CHECK.due("nothing turned over", whole.hear(), RadioPair.TAKEN);
        CHECK.due("its last byte", whole.read(1, 2), 50);
        for (int i = HEAD_END; i < HEAD_END + 24 + 8 * 4; i++) {
            Link x = spoken(false, 200, 100, 50);
            x.flip(i);
            CHECK.due("flip(" + i + ")", x.hear(), RadioPair.BAD);
            CHECK.due("corrected", x.state(1, 6), 0);
            CHECK.due("taken", x.state(1, 1), 0);
        }
    }

    private static void loadIsWhitenedAgain() {
        CHECK.sentence("Whitened again.");
        for (int clock = 0; clock < 130; clock += 2) {
            Link x = clock % 4 == 0 ? new Link(ADDRESS) : Link.plain(ADDRESS);
            x.reach(clock);
            x.message(0, 255, 0, 129);
            CHECK.due("a load at clock " + clock, x.pass(), RadioPair.TAKEN);
            CHECK.same("its bytes", List.of(x.read(1, 0), x.read(1, 1), x.read(1, 2)), List.of(255, 0, 129));
        }
    }

    /** A load of four bytes that ends in these bits, a part of its remainder. */
    private static List<Integer> endsIn(List<Integer> bits) {
        for (int b = 0; b < 65536; b++) {
            List<Integer> load = Wire.load(18, 3, 1, b % 256, b / 256);
            if (load.subList(56 - bits.size(), 56).equals(bits)) {
                return load;
            }
        }
        CHECK.due("a load that ends in " + bits, 0, 1);
        return Wire.load(18, 3, 1, 1, 1);
    }

    private static void fewerBitsThanTheNumberSays() {
        CHECK.sentence("With n the first number / 4 (the number of 8 bits): the load is BAD if there are fewer than "
            + "24 + 8 * n bits,");
        CHECK.due("PLAIN, just as many", forged(false, Wire.load(14, 2, 1, 1)).hear(), RadioPair.TAKEN);
        // What lies behind the end of many a row is zeros, here before or behind the whitening.
        List<Integer> white = Wire.white(0, 18 + 56);
        for (int lack : new int[] {8, 6}) {
            List<Integer> zeros = Wire.number(0, lack);
            List<Integer> whitened = white.subList(18 + 56 - lack, 18 + 56);
            for (List<Integer> end : List.of(zeros, whitened)) {
                // PLAIN has 48 bits; GUARDED has five tens, of which the last two bits are forged too.
                boolean guarded = lack == 6;
                List<Integer> cut = endsIn(end).subList(0, 56 - lack);
                CHECK.due("56 bits asked for, " + lack + " fewer there", forged(guarded, cut).hear(), RadioPair.BAD);
            }
        }
        CHECK.due("PLAIN, n is 63", forged(false, Wire.load(63 * 4 + 2, 2, 1, 1)).hear(), RadioPair.BAD);
        CHECK.due("GUARDED, n is 63", forged(true, Wire.load(63 * 4 + 1, 2, 1, 1)).hear(), RadioPair.BAD);
        Link x = spoken(true, 7);
        CHECK.due("GUARDED, 40 bits in four tens, just as many", x.hear(), RadioPair.TAKEN);
        CHECK.due("PLAIN, no bits at all", hearHead(ADDRESS, ADDRESS, 4, 1, 0, 1), RadioPair.BAD);
        CHECK.due("GUARDED, no bits at all", hearHead(ADDRESS, ADDRESS, 3, 1, 0, 1), RadioPair.BAD);
    }

    private static void lowestTwoBits() {
        CHECK.sentence("or the lowest two bits of that number are 0 or 3,");
        for (int mark = 0; mark < 4; mark++) {
            int want = mark == 1 || mark == 2 ? RadioPair.TAKEN : RadioPair.BAD;
            CHECK.due("PLAIN, " + mark, forged(false, Wire.load(12 + mark, 2, 1, 1)).hear(), want);
            CHECK.due("GUARDED, " + mark, forged(true, Wire.load(12 + mark, 2, 1, 1)).hear(), want);
        }
    }

    private static void noBytes() {
        CHECK.sentence("or n is 0,");
        for (int mark = 1; mark <= 2; mark++) {
            CHECK.due("PLAIN, number " + mark, forged(false, Wire.load(mark)).hear(), RadioPair.BAD);
            CHECK.due("GUARDED, number " + mark, forged(true, Wire.load(mark)).hear(), RadioPair.BAD);
            CHECK.due("PLAIN, one byte", forged(false, Wire.load(4 + mark, 9)).hear(), RadioPair.TAKEN);
            CHECK.due("GUARDED, one byte", forged(true, Wire.load(4 + mark, 9)).hear(), RadioPair.TAKEN);
        }
    }

    private static void remainderOfLoad() {
        CHECK.sentence("or the 16 bits behind the n bytes are not the REMAINDER of all before them.");
        for (int i = 2; i < 48; i++) {
            // The first two bits are left out: turned over alone they are wrong by themselves.
            List<Integer> load = Wire.load(14, 2, 1, 1);
            load.set(i, 1 - load.get(i));
            CHECK.due("PLAIN, bit " + i, forged(false, load).hear(), RadioPair.BAD);
            CHECK.due("GUARDED, bit " + i, forged(true, load).hear(), RadioPair.BAD);
        }
        // Four ones of a fifteen that holds, turned over, are no fault of the fifteen.
        Link x = spoken(true, 200, 100, 50);
        x.flips(ones(HEAD_END + 30, Wire.withRem(Wire.number(1, 10), 53, 5), 15));
        CHECK.due("GUARDED, a fifteen that is another one", x.hear(), RadioPair.BAD);
        CHECK.due("corrected", x.state(1, 6), 0);
    }

    private static void bitsBehind() {
        CHECK.sentence("Bits behind are not looked at.");
        for (int k = 0; k < 2; k++) {
            Link x = forged(k == 0, Wire.load(10, 1, 33));
            CHECK.due("a shorter load", x.hear(), RadioPair.TAKEN);
            CHECK.due("its byte", x.read(1, 0), 33);
            CHECK.due("its length", x.next(1), 1);
        }
        // 48 bits: the last two of the fifth ten fill it; as another fifteen that holds they say nothing.
        for (int fill = 1; fill < 4; fill++) {
            Link x = spoken(true, 7, 9);
            x.flips(ones(HEAD_END + 4 * 15, Wire.withRem(Wire.number(fill << 8, 10), 53, 5), 15));
            CHECK.due("another filling of the last ten", x.hear(), RadioPair.TAKEN);
            CHECK.due("corrected", x.state(1, 6), 0);
            CHECK.due("its last byte", x.read(1, 1), 9);
        }
    }

    private static void correctedInABadLoad() {
        CHECK.sentence("(What was CORRECTED counts in a BAD load too.)");
        int[][] runs = {{54, 69, 70}, {54, 55, 69}, {54, 55, 69, 84}, {54, 69, 70, 84}, {69, 54, 55, 84, 99}};
        int[] corrected = {1, 1, 2, 2, 3};
        for (int k = 0; k < runs.length; k++) {
            Link x = spoken(true, 200, 100, 50);
            x.flips(runs[k]);
            CHECK.due("run " + k, x.hear(), RadioPair.BAD);
            CHECK.due("run " + k + ": corrected", x.state(1, 6), corrected[k]);
            x.pass();
            CHECK.due("run " + k + ": sent again", x.pass(), RadioPair.TAKEN);
            CHECK.due("run " + k + ": it stays", x.state(1, 6), corrected[k]);
        }
        // Every fifteen holds, one of them when mended, and only the load's remainder is wrong.
        List<Integer> load = Wire.load(14, 2, 1, 1);
        load.set(40, 1 - load.get(40));
        Link x = forged(true, load);
        x.flip(HEAD_END + 3);
        CHECK.due("a wrong remainder behind a mended fifteen", x.hear(), RadioPair.BAD);
        CHECK.due("corrected", x.state(1, 6), 1);
    }
}
