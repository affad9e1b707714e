import java.util.ArrayList;
import java.util.List;

/** Terms from BITS to PLAIN: how a frame becomes a row of bits (promises 5 and 6). */
final class TermsAirTest {
    private static final Check CHECK = new Check("Terms");
    // The first 18 bits of WHITE of the clock 0, worked out with pencil and paper.
    private static final String WHITE_0 = "000000100100110100";

    private TermsAirTest() {
    }

    public static void main(String[] args) {
        numbersAndRemaindersGoOppositeWays();
        remaindersByDivision();
        whiteBeginsWithTheClock();
        whiteGoesOnFromItself();
        clockCountsSlots();
        devicesTakeTurns();
        kindsAndTheirBits();
        headHasItsParts();
        loadHasItsParts();
        clockOfTheSlotWhitens();
        headIsSentThreeTimes();
        guardedLoadsAreCutIntoTens();
        fillingBehindALongerFrame();
        plainLoadsAreSentAsTheyAre();
        CHECK.end();
    }

    private static List<Integer> xor(List<Integer> a, List<Integer> b) {
        List<Integer> row = new ArrayList<>();
        for (int i = 0; i < a.size(); i++) {
            row.add(a.get(i) ^ b.get(i));
        }
        return row;
    }

    /** The 18 bits of HEAD that are on the air, still whitened. */
    private static List<Integer> headOf(List<Integer> air) {
        List<Integer> head = new ArrayList<>();
        for (int i = 0; i < 54; i += 3) {
            head.add(air.get(i));
        }
        return head;
    }

    private static List<Integer> spoken(Link x) {
        x.slot();
        return x.bits();
    }

    private static void numbersAndRemaindersGoOppositeWays() {
        CHECK.sentence("BITS. A number of n bits is sent lowest bit first, but a REMAINDER highest bit first.");
        // Address 6, kind 1, the bit 1, ack 0, turn 0, the remainder 11000011.
        List<Integer> poll = headOf(spoken(new Link(6)));
        CHECK.same("a poll's head", xor(poll, Wire.row(WHITE_0)), Wire.row("011" + "1000" + "100" + "11000011"));
        // Address 2, and 00010101, which read the other way round is another row.
        poll = headOf(spoken(new Link(2)));
        CHECK.same("another one", xor(poll, Wire.row(WHITE_0)), Wire.row("010" + "1000" + "100" + "00010101"));
        // Bytes 2, 1, 255 behind 14, the remainder 0101101010110000, all of it whitened.
        Link x = Link.plain(6);
        x.message(0, 1, 255);
        List<Integer> air = spoken(x);
        CHECK.same("a plain load", air.subList(54, air.size()),
            Wire.row("10000111" + "01001111" + "01100011" + "01001110" + "0001000101011010"));
    }

    private static void remaindersByDivision() {
        CHECK.sentence("REM(row, g, n), g of n + 1 bits: the row read as a polynomial over two elements, its first "
            + "bit the highest power, times x to the n, has by division by g (its highest bit x to the n) this "
            + "remainder, a number of n bits.");
        String[] remainders = {"00001000", "00010101", "00000011", "11001000", "11011110", "11000011", "11010101"};
        for (int address = 1; address <= 7; address++) {
            List<Integer> head = xor(headOf(spoken(new Link(address))), Wire.row(WHITE_0));
            CHECK.same("of a poll at " + address, head.subList(10, 18), Wire.row(remainders[address - 1]));
        }
        Link x = new Link(6);
        x.message(0, 1, 255);
        List<Integer> air = spoken(x);
        CHECK.same("five tens, each with its remainder", air.subList(54, air.size()),
            Wire.row("1000011101" + "01011" + "0011110110" + "11000" + "0011010011" + "00001" + "1000010001" + "10110"
                + "0101101000" + "10010"));
    }

    private static void whiteBeginsWithTheClock() {
        CHECK.sentence("WHITE of a clock c: a row w: w 0 .. w 6 are the bits 0 .. 6 of 64 + c % 64;");
        for (int clock : new int[] {0, 1, 2, 31, 32, 62, 63, 64, 65, 126, 127, 128, 129, 191, 192, 255, 256, 448}) {
            Link x = new Link(4);
            x.reach(clock);
            x.slot();
            List<Integer> head = Wire.head(4, 1 + clock % 2, 1, 0, 0);
            int start = 0;
            for (int i = 0; i < 7; i++) {
                start += (x.air(3 * i) ^ head.get(i)) << i;
            }
            CHECK.due("the number that begins WHITE of " + clock, start, 64 + clock % 64);
        }
    }

    private static void whiteGoesOnFromItself() {
        CHECK.sentence("w n = w (n - 7) xor w (n - 3) for n from 7 on.");
        for (int clock : new int[] {0, 63}) {
            Link x = Link.plain(4);
            int device = clock % 2;
            x.message(device, Link.counting(1, 12));
            x.reach(clock);
            List<Integer> air = spoken(x);
            List<Integer> w = xor(headOf(air), Wire.head(4, 4, 1, 0, 1));
            w.addAll(xor(air.subList(54, air.size()),
                Wire.load(54, 12, 1, 2, 3, 4, 5, 6, 7, 8, 9, 10, 11, 12)));
            CHECK.due("as many bits as the longest plain frame", w.size(), 18 + 128);
            for (int n = 7; n < w.size(); n++) {
                CHECK.due("clock " + clock + ", w " + n, w.get(n), w.get(n - 7) ^ w.get(n - 3));
            }
        }
    }

    private static void clockCountsSlots() {
        CHECK.sentence("THE CLOCK is the number of slots so far.");
        Link x = new Link(4);
        CHECK.due("before the first slot", x.count(0), 0);
        for (int clock = 1; clock <= 140; clock++) {
            x.slot();
            CHECK.due("behind slots, every second one silent", x.count(0), clock);
        }
        x.hear();
        x.flip(0);
        x.message(0, 1);
        x.guard(0, false);
        x.next(0);
        CHECK.due("behind other calls", x.count(0), 140);
    }

    private static void devicesTakeTurns() {
        CHECK.sentence("Device 0 speaks in slots whose number (the clock before them) is even, device 1 in the others.");
        Link x = new Link(4);
        for (int clock = 0; clock < 130; clock++) {
            CHECK.due("slot number " + clock, x.slot(), clock % 2 == 0 ? 1 : 2);
            CHECK.due("heard", x.hear(), RadioPair.HEAD);
        }
        Link y = new Link(4);
        for (int clock = 0; clock < 6; clock++) {
            CHECK.due("unheard slot number " + clock, y.slot(), clock % 2 == 0 ? 1 : 0);
        }
        Link z = new Link(4);
        z.pass();
        z.hear();
        CHECK.due("a second hear() takes no turn", z.slot(), RadioPair.IDLE);
    }

    private static void kindsAndTheirBits() {
        CHECK.sentence("A FRAME has a kind, POLL 1, IDLE 2, GUARDED 3 or PLAIN 4, an ack bit and a turn bit, and with "
            + "kinds 3 and 4 a LOAD. On the air it is a row of bits, made so:");
        Link x = new Link(4);
        CHECK.due("POLL", x.slot(), 1);
        CHECK.due("its bits", x.count(1), 54);
        x.hear();
        CHECK.due("IDLE", x.slot(), 2);
        CHECK.due("its bits", x.count(1), 54);
        x.message(0, 9);
        CHECK.due("GUARDED", x.slot(), 3);
        CHECK.due("its bits", x.count(1), 54 + 60);
        x.guard(1, false);
        x.message(1, 9);
        x.hear();
        CHECK.due("PLAIN", x.slot(), 4);
        CHECK.due("its bits", x.count(1), 54 + 40);
    }

    private static void headHasItsParts() {
        CHECK.sentence("HEAD: 10 bits: the link's address in 3 bits, the kind in 4, the bit 1, the ack bit, the turn "
            + "bit; then 8 bits: REM(these 10, 423, 8).");
        for (int address = 1; address <= 7; address++) {
            Link x = new Link(address);
            x.guard(1, false);
            // Kind, ack and turn of one slot after the other; all are heard.
            int[][] heads = {{1, 0, 0}, {2, 0, 0}, {3, 0, 1}, {4, 1, 1}, {1, 1, 1}, {2, 0, 1}, {3, 0, 0}, {4, 1, 0}};
            for (int clock = 0; clock < heads.length; clock++) {
                if (clock == 2 || clock == 6) {
                    x.message(0, 5);
                    x.message(1, 6);
                }
                x.slot();
                List<Integer> head = new ArrayList<>();
                for (int i = 0; i < 18; i++) {
                    head.add(x.air(3 * i));
                }
                x.hear();
                int[] parts = heads[clock];
                CHECK.same("address " + address + ", slot " + clock, Wire.whitened(head, clock, 0),
                    Wire.head(address, parts[0], 1, parts[1], parts[2]));
            }
        }
    }

    /** The bytes of one frame: those of the message on the air from `start` on, its length first. */
    private static int[] part(int[] bytes, int start, int end) {
        int[] part = new int[end - start];
        for (int i = start; i < end; i++) {
            part[i - start] = i == 0 ? bytes.length : bytes[i - 1];
        }
        return part;
    }

    private static void loadHasItsParts() {
        CHECK.sentence("LOAD: a number of 8 bits, 4 * how many bytes + 2 if it begins a message, else + 1; the bytes, "
            + "8 bits each; then 16 bits: REM(all of the load before, 69665, 16).");
        for (int size = 1; size <= 25; size++) {
            Link x = Link.plain(4);
            int[] bytes = Link.counting(255 - 9 * size, size);
            x.message(0, bytes);
            int first = Math.min(13, size + 1);
            List<Integer> air = spoken(x);
            CHECK.same("the first " + first + " bytes of " + size,
                Wire.whitened(air.subList(54, air.size()), 0, 18), Wire.load(4 * first + 2, part(bytes, 0, first)));
            if (size > 12) {
                x.hear();
                x.pass();
                air = spoken(x);
                CHECK.same("the last " + (size - 12) + " bytes of " + size,
                    Wire.whitened(air.subList(54, air.size()), 2, 18),
                    Wire.load(4 * (size - 12) + 1, part(bytes, 13, size + 1)));
            }
        }
    }

    private static void clockOfTheSlotWhitens() {
        CHECK.sentence("Bit i of HEAD is xored with w i, bit i of LOAD with w (18 + i), w being WHITE of the clock "
            + "when the slot begins.");
        List<Integer> head = Wire.head(4, 4, 1, 0, 1);
        List<Integer> load = Wire.load(14, 2, 128, 7);
        for (int clock : new int[] {0, 2, 62, 64, 126, 128}) {
            Link x = Link.plain(4);
            x.message(0, 128, 7);
            // Never heard, so that the same frame comes in every slot of device 0.
            for (int i = 0; i < clock; i++) {
                x.slot();
            }
            List<Integer> air = spoken(x);
            List<Integer> w = Wire.white(clock, 18 + load.size());
            CHECK.same("HEAD at clock " + clock, xor(headOf(air), w.subList(0, 18)), head);
            CHECK.same("LOAD at clock " + clock, xor(air.subList(54, air.size()), w.subList(18, w.size())), load);
        }
    }

    private static void headIsSentThreeTimes() {
        CHECK.sentence("Then each bit of HEAD is sent three times in a row.");
        Link x = new Link(6);
        // Head 011100010011000011 of the poll, whitened.
        String head = "011100110111110111";
        List<Integer> air = spoken(x);
        CHECK.due("bits", air.size(), 3 * head.length());
        for (int i = 0; i < 54; i++) {
            CHECK.due("air(" + i + ")", air.get(i), head.charAt(i / 3) - '0');
        }
    }

    private static void guardedLoadsAreCutIntoTens() {
        CHECK.sentence("Of a GUARDED frame the bits of LOAD are cut into tens, zeros behind to fill the last one; each "
            + "ten is sent, then 5 bits, REM(the ten, 53, 5).");
        for (int n = 1; n <= 9; n++) {
            // A frame of one byte alone is the second one of a message of nine.
            int[] bytes = Link.counting(250 - 20 * n, n == 1 ? 9 : n - 1);
            Link x = new Link(4);
            x.message(0, bytes);
            int clock = n == 1 ? 2 : 0;
            x.passes(clock);
            List<Integer> air = spoken(x);
            List<Integer> load = Wire.whitened(n == 1 ? Wire.load(5, bytes[8]) : Wire.load(4 * n + 2, part(bytes, 0, n)),
                clock, 18);
            int tens = (24 + 8 * n + 9) / 10;
            CHECK.due("bits of a load of " + n, air.size(), 54 + 15 * tens);
            for (int k = 0; k < tens; k++) {
                List<Integer> fifteen = air.subList(54 + 15 * k, 69 + 15 * k);
                List<Integer> ten = new ArrayList<>();
                for (int i = 10 * k; i < 10 * k + 10; i++) {
                    ten.add(i < load.size() ? load.get(i) : 0);
                }
                CHECK.same("load of " + n + ", ten " + k, fifteen.subList(0, 10), ten);
                CHECK.same("load of " + n + ", behind ten " + k, fifteen.subList(10, 15), Wire.rem(ten, 53, 5));
            }
        }
    }

    /** What a longer frame left behind must not show in the filling of the next one. */
    private static void fillingBehindALongerFrame() {
        CHECK.sentence("zeros behind to fill the last one;");
        for (int size = 1; size <= 7; size++) {
            for (int b : new int[] {0, 15, 85, 170, 240, 255}) {
                Link x = new Link(4);
                x.message(0, b, b, b, b, b, b, b, b);
                x.passes(2);
                int[] bytes = Link.counting(b / 2, size);
                x.message(0, bytes);
                x.slot();
                List<Integer> want = Wire.frame(Wire.head(4, 3, 1, 0, 0),
                    Wire.load(4 * size + 6, part(bytes, 0, size + 1)), 2);
                CHECK.same("a frame of " + (size + 1) + " behind one of nine", x.bits(), want);
            }
        }
    }

    private static void plainLoadsAreSentAsTheyAre() {
        CHECK.sentence("Of a PLAIN frame they are sent as they are.");
        for (int n = 1; n <= 13; n++) {
            int[] bytes = Link.counting(250 - 18 * n, n == 1 ? 13 : n - 1);
            Link x = Link.plain(4);
            x.message(0, bytes);
            int clock = n == 1 ? 2 : 0;
            x.passes(clock);
            List<Integer> air = spoken(x);
            List<Integer> load = n == 1 ? Wire.load(5, bytes[12]) : Wire.load(4 * n + 2, part(bytes, 0, n));
            CHECK.due("bits of a load of " + n, air.size(), 54 + 24 + 8 * n);
            CHECK.same("load of " + n, air.subList(54, air.size()), Wire.whitened(load, clock, 18));
        }
    }
}
