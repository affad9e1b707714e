/** Runs of calls that many tests begin with. */
final class Steps {
    private Steps() {
    }

    /** A new link whose devices are not guarded. */
    static RadioPair plainLink(int address) {
        RadioPair x = new RadioPair(address);
        x.guard(0, false);
        x.guard(1, false);
        return x;
    }

    static int message(RadioPair x, int device, int... bytes) {
        for (int b : bytes) {
            x.write(device, b);
        }
        return x.send(device);
    }

    /** first, first + 1 and so on. */
    static int[] counting(int first, int size) {
        int[] bytes = new int[size];
        for (int i = 0; i < size; i++) {
            bytes[i] = first + i;
        }
        return bytes;
    }

    /** A slot that is heard as it is: what hear() answered. */
    static int pass(RadioPair x) {
        x.slot();
        return x.hear();
    }

    static void passes(RadioPair x, int slots) {
        for (int i = 0; i < slots; i++) {
            pass(x);
        }
    }
}
