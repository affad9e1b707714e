import java.util.ArrayList;
import java.util.LinkedHashMap;
import java.util.List;
import java.util.Map;
import java.util.function.Supplier;
import java.util.function.ToIntFunction;

/** Terms, the last ones: calls that are refused, and the constants that answers are made of (all promises). */
final class TermsRefusedTest {
    private static final Check CHECK = new Check("Terms");
    private static final int[] NO_DEVICE = {-1, 2, 3, Integer.MIN_VALUE, Integer.MAX_VALUE};

    private TermsRefusedTest() {
    }

    public static void main(String[] args) {
        refusedInTheMidst();
        refusedWhereNothingIs();
        numbersOutOfRange();
        whatASlotCameTo();
        whatTakingTheAirCameTo();
        CHECK.end();
    }

    /** Device 0 has written all it can and is on the air; device 1 has six to send and one message taken. */
    private static Link inTheMidst() {
        Link x = Link.plain(7);
        x.message(0, 1, 2, 3);
        x.passes(2);
        x.message(0, 4, 5);
        for (int i = 0; i < 40; i++) {
            x.write(0, i);
        }
        for (int k = 0; k < 6; k++) {
            x.message(1, 50 + k, k);
        }
        x.write(1, 9);
        x.slot();
        return x;
    }

    private static Link whereNothingIs() {
        return new Link(7);
    }

    /** All that can be seen of a link, now and while it goes on. */
    private static List<Integer> look(Link x) {
        List<Integer> seen = new ArrayList<>(x.bits());
        seen.addAll(x.states(0));
        seen.addAll(x.states(1));
        for (int what = 0; what < 4; what++) {
            seen.add(x.count(what));
        }
        for (int i = 0; i < 4; i++) {
            seen.add(x.read(0, i));
            seen.add(x.read(1, i));
        }
        seen.add(x.hear());
        for (int device = 0; device < 2; device++) {
            seen.add(x.write(device, 11));
            seen.add(x.send(device));
        }
        for (int i = 0; i < 12; i++) {
            seen.add(x.slot());
            seen.add(x.count(1));
            seen.add(x.hear());
        }
        seen.addAll(x.states(0));
        seen.addAll(x.states(1));
        for (int k = 0; k < 7; k++) {
            for (int device = 0; device < 2; device++) {
                seen.add(x.read(device, 0));
                seen.add(x.next(device));
            }
        }
        return seen;
    }

    private static void changesNothing(Supplier<Link> begin, Map<String, ToIntFunction<Link>> calls, int answer) {
        List<Integer> untouched = look(begin.get());
        calls.forEach((name, call) -> {
            Link x = begin.get();
            CHECK.due(name, call.applyAsInt(x), answer);
            CHECK.same("what is seen behind " + name, look(x), untouched);
        });
    }

    private static void refusedInTheMidst() {
        CHECK.sentence("A refused call changes nothing.");
        Map<String, ToIntFunction<Link>> refused = new LinkedHashMap<>();
        for (int device : NO_DEVICE) {
            refused.put("guard(" + device + ", true)", x -> x.guard(device, true));
            refused.put("write(" + device + ", 0)", x -> x.write(device, 0));
            refused.put("send(" + device + ")", x -> x.send(device));
            refused.put("read(" + device + ", 0)", x -> x.read(device, 0));
            refused.put("next(" + device + ")", x -> x.next(device));
            refused.put("state(" + device + ", 0)", x -> x.state(device, 0));
        }
        refused.put("write(1, -1)", x -> x.write(1, -1));
        refused.put("write(1, 256)", x -> x.write(1, 256));
        refused.put("write(0, 256) with 40 there", x -> x.write(0, 256));
        refused.put("air(-1)", x -> x.air(-1));
        refused.put("air(102)", x -> x.air(102));
        refused.put("flip(-1)", x -> x.flip(-1));
        refused.put("flip(102)", x -> x.flip(102));
        refused.put("read(1, 3)", x -> x.read(1, 3));
        refused.put("read(1, -1)", x -> x.read(1, -1));
        refused.put("next(0)", x -> x.next(0));
        refused.put("state(0, 10)", x -> x.state(0, 10));
        refused.put("count(4)", x -> x.count(4));
        changesNothing(TermsRefusedTest::inTheMidst, refused, RadioPair.REFUSED);
        Map<String, ToIntFunction<Link>> full = new LinkedHashMap<>();
        full.put("write(0, 7) with 40 there", x -> x.write(0, 7));
        full.put("send(1) with 6 there", x -> x.send(1));
        changesNothing(TermsRefusedTest::inTheMidst, full, RadioPair.FULL);
    }

    private static void refusedWhereNothingIs() {
        CHECK.sentence("A refused call changes nothing.");
        Map<String, ToIntFunction<Link>> refused = new LinkedHashMap<>();
        for (int device = 0; device < 2; device++) {
            int own = device;
            refused.put("send(" + own + ") of nothing", x -> x.send(own));
            refused.put("read(" + own + ", 0) of nothing", x -> x.read(own, 0));
            refused.put("next(" + own + ") of nothing", x -> x.next(own));
        }
        refused.put("air(0) of nothing", x -> x.air(0));
        refused.put("flip(0) of nothing", x -> x.flip(0));
        changesNothing(TermsRefusedTest::whereNothingIs, refused, RadioPair.REFUSED);
    }

    private static void refuses(String call, ToIntFunction<Integer> answer, int... numbers) {
        for (int number : numbers) {
            CHECK.due(call + " with " + number, answer.applyAsInt(number), RadioPair.REFUSED);
        }
    }

    private static void numbersOutOfRange() {
        CHECK.sentence("Numbers out of range: REFUSED.");
        int least = Integer.MIN_VALUE;
        int most = Integer.MAX_VALUE;
        Link x = inTheMidst();
        refuses("guard, device", n -> x.guard(n, true), NO_DEVICE);
        refuses("write, device", n -> x.write(n, 1), NO_DEVICE);
        refuses("write, byte", n -> x.write(1, n), least, -256, -1, 256, 257, 511, most);
        refuses("send, device", n -> x.send(n), NO_DEVICE);
        refuses("air", n -> x.air(n), least, -1, 102, 103, most);
        refuses("flip", n -> x.flip(n), least, -1, 102, 103, most);
        refuses("read, device", n -> x.read(n, 0), NO_DEVICE);
        refuses("read, byte", n -> x.read(1, n), least, -1, 3, 4, 40, 255, 256, most);
        refuses("next, device", n -> x.next(n), NO_DEVICE);
        refuses("state, device", n -> x.state(n, 0), NO_DEVICE);
        refuses("state, what", n -> x.state(0, n), least, -1, 10, 11, most);
        refuses("state of device 1, what", n -> x.state(1, n), least, -1, 10, 11, most);
        refuses("count", n -> x.count(n), least, -1, 4, 5, most);
    }

    private static void whatASlotCameTo() {
        CHECK.sentence("The constants: SILENT = 0, POLL = 1, IDLE = 2, GUARDED = 3, PLAIN = 4: What a slot came to.");
        CHECK.same("the numbers", List.of(RadioPair.SILENT, RadioPair.POLL, RadioPair.IDLE, RadioPair.GUARDED,
            RadioPair.PLAIN), List.of(0, 1, 2, 3, 4));
        Link x = new Link(7);
        CHECK.due("device 0 has nothing to say", x.slot(), 1);
        CHECK.due("device 1 has not HEARD", x.slot(), 0);
        x.pass();
        CHECK.due("device 1 has nothing to say", x.slot(), 2);
        x.message(0, 1);
        CHECK.due("device 0 is guarded", x.slot(), 3);
        x.hear();
        x.guard(1, false);
        x.message(1, 1);
        CHECK.due("device 1 is not", x.slot(), 4);
    }

    private static void whatTakingTheAirCameTo() {
        CHECK.sentence("LOST = 5, TAKEN = 6, BAD = 7, AGAIN = 8, HEAD = 9: What taking the air came to, beside SILENT.");
        CHECK.same("the numbers", List.of(RadioPair.LOST, RadioPair.TAKEN, RadioPair.BAD, RadioPair.AGAIN,
            RadioPair.HEAD), List.of(5, 6, 7, 8, 9));
        Link x = Link.plain(7);
        CHECK.due("no bits", x.hear(), 0);
        CHECK.due("a poll", x.pass(), 9);
        x.message(0, 1);
        x.slot();
        x.slot();
        x.flips(0, 1);
        CHECK.due("a head with a wrong bit", x.hear(), 5);
        x.slot();
        x.slot();
        x.flip(54);
        CHECK.due("a load with a wrong bit", x.hear(), 7);
        x.slot();
        CHECK.due("a load", x.pass(), 6);
        x.slot();
        CHECK.due("the same load", x.pass(), 8);
    }
}
