import java.util.ArrayList;
import java.util.List;
import java.util.Random;

/** Random runs of at most 512 calls, each answer held against Model; the seeds are fixed. */
final class ModelTest {
    private static final int RUNS = 1500;
    private static final int CALLS = 512;
    private static final int[] ODD = {-1, 2, 256, 10, 4, 204, Integer.MIN_VALUE, Integer.MAX_VALUE};

    private final Random random;
    private final Check check;
    private final RadioPair x;
    private final Model model;
    private final String run;
    private final int noise;
    private int calls = 0;

    private ModelTest(int seed, Check check) {
        this.random = new Random(seed);
        this.check = check;
        int address = random.nextInt(12) - 2;
        this.x = new RadioPair(address);
        this.model = new Model(address);
        this.run = "seed " + seed + ", ";
        this.noise = random.nextInt(4);
    }

    public static void main(String[] args) {
        Check check = new Check("Model");
        int[] outcomes = new int[10];
        for (int seed = 0; seed < RUNS && check.allAsDue(); seed++) {
            new ModelTest(seed, check).play(outcomes);
        }
        for (int outcome : new int[] {0, 5, 6, 7, 8, 9}) {
            check.due("that outcome " + outcome + " came up", outcomes[outcome] > 100 ? 1 : 0, 1);
        }
        check.end();
    }

    private void play(int[] outcomes) {
        while (calls < CALLS && check.allAsDue()) {
            int pick = random.nextInt(20);
            if (pick < 4) {
                writeMessage();
            } else if (pick < 15) {
                due("slot()", x.slot(), model.slot());
                disturb();
                if (random.nextInt(12) != 0) {
                    int outcome = model.hear();
                    outcomes[outcome]++;
                    due("hear()", x.hear(), outcome);
                }
            } else {
                ask();
            }
            look();
        }
    }

    private void due(String call, int got, int want) {
        calls++;
        if (calls <= CALLS) {
            check.due(run + "call " + calls + ": " + call, got, want);
        }
    }

    private int device() {
        return random.nextInt(30) == 0 ? odd() : random.nextInt(2);
    }

    private int odd() {
        return ODD[random.nextInt(ODD.length)];
    }

    private void writeMessage() {
        int device = device();
        int size = random.nextInt(5) == 0 ? random.nextInt(43) : random.nextInt(12);
        for (int i = 0; i < size; i++) {
            int b = random.nextInt(50) == 0 ? odd() : random.nextInt(256);
            due("write(" + device + ", " + b + ")", x.write(device, b), model.write(device, b));
        }
        due("send(" + device + ")", x.send(device), model.send(device));
        if (random.nextInt(3) == 0) {
            boolean on = random.nextBoolean();
            due("guard(" + device + ", " + on + ")", x.guard(device, on), model.guard(device, on));
        }
    }

    private void disturb() {
        int bits = model.air.size();
        int pick = noise == 0 ? 9 : random.nextInt(10);
        if (bits == 0 || pick > 3 + noise) {
            return;
        }
        if (pick < 3) {
            for (int k = random.nextInt(2 * noise + 1); k >= 0; k--) {
                flip(random.nextInt(bits));
            }
        } else if (pick == 3) {
            int start = random.nextInt(bits);
            for (int k = 0; k < 5; k++) {
                flip(start + random.nextInt(6) - 1);
            }
        } else {
            forge();
        }
    }

    private void flip(int i) {
        due("flip(" + i + ")", x.flip(i), model.flip(i));
    }

    /** Turns the bits of another frame into being, most often one that checks. */
    private void forge() {
        int clock = model.clock - 1;
        int kind = random.nextInt(8) == 0 ? random.nextInt(16) : 1 + random.nextInt(4);
        int address = random.nextInt(12) == 0 ? random.nextInt(8) : model.address;
        int one = random.nextInt(12) == 0 ? 0 : 1;
        List<Integer> wanted =
            Wire.headOnAir(Wire.head(address, kind, one, random.nextInt(2), random.nextInt(2)), clock);
        int room = model.air.size() - 54;
        int n = (kind == 3 ? (room / 15 * 10 - 24) / 8 : (room - 24) / 8) - random.nextInt(3);
        if (room > 0 && n >= 0 && random.nextInt(4) != 0) {
            wanted.addAll(Wire.loadOnAir(kind == 3, forgedLoad(n), clock));
        }
        List<Integer> is = new ArrayList<>(model.air);
        for (int i = 0; i < wanted.size() && i < is.size(); i++) {
            if (!is.get(i).equals(wanted.get(i))) {
                flip(i);
            }
        }
    }

    private List<Integer> forgedLoad(int n) {
        int[] bytes = new int[n];
        for (int i = 0; i < n; i++) {
            bytes[i] = random.nextInt(256);
        }
        if (n > 0 && random.nextInt(4) != 0) {
            bytes[0] = n - 2 + random.nextInt(3) + (random.nextInt(3) == 0 ? random.nextInt(30) : 0);
            bytes[0] = Math.max(bytes[0], 0);
        }
        int mark = random.nextInt(8) == 0 ? random.nextInt(4) : 1 + random.nextInt(2);
        return Wire.load(4 * n + mark, bytes);
    }

    private void ask() {
        int device = device();
        if (random.nextInt(3) == 0) {
            due("next(" + device + ")", x.next(device), model.next(device));
        } else {
            int i = random.nextInt(10) == 0 ? odd() : random.nextInt(20);
            due("read(" + device + ", " + i + ")", x.read(device, i), model.read(device, i));
        }
    }

    private void look() {
        for (int k = 0; k < 3; k++) {
            int device = device();
            int what = random.nextInt(12) - 1;
            due("state(" + device + ", " + what + ")", x.state(device, what), model.state(device, what));
        }
        int what = random.nextInt(6) - 1;
        due("count(" + what + ")", x.count(what), model.count(what));
        int i = random.nextInt(210) - 2;
        due("air(" + i + ")", x.air(i), model.air(i));
    }
}
