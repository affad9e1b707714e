import java.util.ArrayList;
import java.util.List;

/** A RadioPair with steps that many tests take; counts its calls, as only 512 of them are promised. */
final class Link {
    static final int CALLS = 512;

    private final RadioPair pair;
    private int calls = 0;
    private int slots = 0;

    Link(int address) {
        pair = new RadioPair(address);
    }

    /** A new link whose devices are not guarded. */
    static Link plain(int address) {
        Link link = new Link(address);
        link.guard(0, false);
        link.guard(1, false);
        return link;
    }

    /** first, first + 1 and so on. */
    static int[] counting(int first, int size) {
        int[] bytes = new int[size];
        for (int i = 0; i < size; i++) {
            bytes[i] = first + i;
        }
        return bytes;
    }

    private void called() {
        calls++;
        if (calls > CALLS) {
            throw new IllegalStateException("nothing is promised about call " + calls);
        }
    }

    int guard(int device, boolean on) {
        called();
        return pair.guard(device, on);
    }

    int write(int device, int b) {
        called();
        return pair.write(device, b);
    }

    int send(int device) {
        called();
        return pair.send(device);
    }

    int slot() {
        called();
        slots++;
        return pair.slot();
    }

    int air(int i) {
        called();
        return pair.air(i);
    }

    int flip(int i) {
        called();
        return pair.flip(i);
    }

    int hear() {
        called();
        return pair.hear();
    }

    int read(int device, int i) {
        called();
        return pair.read(device, i);
    }

    int next(int device) {
        called();
        return pair.next(device);
    }

    int state(int device, int what) {
        called();
        return pair.state(device, what);
    }

    int count(int what) {
        called();
        return pair.count(what);
    }

    int message(int device, int... bytes) {
        for (int b : bytes) {
            write(device, b);
        }
        return send(device);
    }

    void flips(int... bits) {
        for (int i : bits) {
            flip(i);
        }
    }

    /** A slot that is heard as it is: what hear() answered. */
    int pass() {
        slot();
        return hear();
    }

    void passes(int n) {
        for (int i = 0; i < n; i++) {
            pass();
        }
    }

    /** Goes on until the clock is `clock`; only the last slot is heard, so that device 1 may answer it. */
    void reach(int clock) {
        while (slots < clock - 1) {
            slot();
        }
        if (slots < clock) {
            pass();
        }
    }

    /** All bits on the air, asked one by one. */
    List<Integer> bits() {
        List<Integer> row = new ArrayList<>();
        int n = count(1);
        for (int i = 0; i < n; i++) {
            row.add(air(i));
        }
        return row;
    }

    /** Turns bits over until the air that is known to be `is` begins with `wanted`. */
    Link forge(List<Integer> is, List<Integer> wanted) {
        for (int i = 0; i < wanted.size() && i < is.size(); i++) {
            if (!is.get(i).equals(wanted.get(i))) {
                flip(i);
            }
        }
        return this;
    }

    /** All ten states of a device. */
    List<Integer> states(int device) {
        List<Integer> row = new ArrayList<>();
        for (int what = 0; what < 10; what++) {
            row.add(state(device, what));
        }
        return row;
    }
}
