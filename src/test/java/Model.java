import java.util.ArrayList;
import java.util.Arrays;
import java.util.List;

/** A second program for the same document, built on lists; ModelTest holds RadioPair against it. */
final class Model {
    static final class End {
        final List<Integer> written = new ArrayList<>();
        final List<List<Integer>> toSend = new ArrayList<>();
        final List<List<Integer>> taken = new ArrayList<>();
        List<Integer> left = new ArrayList<>();
        boolean atStart = false;
        boolean guarded = true;
        List<Integer> frame = null;
        int frameKind = 0;
        int frameMark = 0;
        int turn = 0;
        int lastTurn = 0;
        boolean good = false;
        boolean heard = false;
        List<Integer> building = null;
        int due = 0;
        int dropped = 0;
        int corrected = 0;
    }

    final int address;
    final End[] ends = {new End(), new End()};
    List<Integer> air = new ArrayList<>();
    int clock = 0;

    Model(int address) {
        this.address = address < 1 ? 1 : address > 7 ? 7 : address;
    }

    private static boolean off(int device) {
        return device != 0 && device != 1;
    }

    int guard(int device, boolean on) {
        if (off(device)) {
            return -1;
        }
        ends[device].guarded = on;
        return 0;
    }

    int write(int device, int b) {
        if (off(device) || b < 0 || b > 255) {
            return -1;
        }
        List<Integer> written = ends[device].written;
        if (written.size() == 40) {
            return -2;
        }
        written.add(b);
        return written.size();
    }

    int send(int device) {
        if (off(device) || ends[device].written.isEmpty()) {
            return -1;
        }
        End end = ends[device];
        if (end.toSend.size() == 6) {
            return -2;
        }
        end.toSend.add(new ArrayList<>(end.written));
        end.written.clear();
        return end.toSend.size();
    }

    int slot() {
        air = new ArrayList<>();
        int device = clock % 2;
        int kind = device == 1 && !ends[1].heard ? 0 : speak(ends[device], device);
        clock++;
        return kind;
    }

    private int speak(End end, int device) {
        if (end.frame == null) {
            newFrame(end);
        }
        int kind = end.frame == null ? 1 + device : end.frameKind;
        air.addAll(Wire.headOnAir(Wire.head(address, kind, 1, end.good ? 1 : 0, end.turn), clock));
        if (end.frame != null) {
            int[] bytes = end.frame.stream().mapToInt(b -> b).toArray();
            List<Integer> load = Wire.load(4 * bytes.length + end.frameMark, bytes);
            air.addAll(Wire.loadOnAir(kind == 3, load, clock));
        }
        end.good = false;
        end.heard = false;
        return kind;
    }

    private static void newFrame(End end) {
        if (end.left.isEmpty() && !end.toSend.isEmpty()) {
            List<Integer> message = end.toSend.remove(0);
            end.left = new ArrayList<>();
            end.left.add(message.size());
            end.left.addAll(message);
            end.atStart = true;
        }
        if (!end.left.isEmpty()) {
            List<Integer> part = end.left.subList(0, Math.min(end.left.size(), end.guarded ? 9 : 13));
            end.frame = new ArrayList<>(part);
            part.clear();
            end.frameKind = end.guarded ? 3 : 4;
            end.frameMark = end.atStart ? 2 : 1;
            end.atStart = false;
            end.turn = 1 - end.turn;
        }
    }

    int air(int i) {
        return i >= 0 && i < air.size() ? air.get(i) : -1;
    }

    int flip(int i) {
        if (i < 0 || i >= air.size()) {
            return -1;
        }
        air.set(i, 1 - air.get(i));
        return 0;
    }

    int hear() {
        List<Integer> got = air;
        air = new ArrayList<>();
        return got.isEmpty() ? 0 : take(got, ends[clock % 2]);
    }

    private int take(List<Integer> got, End end) {
        List<Integer> voted = new ArrayList<>();
        for (int i = 0; i < 54; i += 3) {
            voted.add(got.get(i) + got.get(i + 1) + got.get(i + 2) > 1 ? 1 : 0);
        }
        List<Integer> head = Wire.whitened(voted, clock - 1, 0);
        int kind = Wire.numberOf(head.subList(3, 7));
        if (!Wire.holds(head, 423, 8) || Wire.numberOf(head.subList(0, 3)) != address
            || head.get(7) != 1 || kind < 1 || kind > 4) {
            return 5;
        }
        end.heard = true;
        if (head.get(8) == 1) {
            end.frame = null;
        }
        return kind < 3 ? 9 : takeLoad(end, kind, got.subList(54, got.size()), head.get(9));
    }

    private int takeLoad(End end, int kind, List<Integer> bits, int turn) {
        List<Integer> mended = kind == 3 ? mend(end, bits) : bits;
        List<Integer> load = mended == null ? null : Wire.whitened(mended, clock - 1, 18);
        if (load == null || load.size() < 8) {
            return 7;
        }
        int number = Wire.numberOf(load.subList(0, 8));
        int n = number / 4;
        if (n == 0 || load.size() < 24 + 8 * n || !List.of(1, 2).contains(number % 4)
            || !Wire.holds(load.subList(0, 24 + 8 * n), 69665, 16)) {
            return 7;
        }
        end.good = true;
        if (turn == end.lastTurn) {
            return 8;
        }
        end.lastTurn = turn;
        List<Integer> bytes = new ArrayList<>();
        for (int i = 8; i < 8 + 8 * n; i += 8) {
            bytes.add(Wire.numberOf(load.subList(i, i + 8)));
        }
        use(end, bytes, number % 4 == 2);
        return 6;
    }

    /** The tens of all whole fifteens, or null if one of them is past mending. */
    private static List<Integer> mend(End end, List<Integer> bits) {
        List<Integer> tens = new ArrayList<>();
        boolean bad = false;
        for (int i = 0; i + 15 <= bits.size(); i += 15) {
            List<Integer> fifteen = new ArrayList<>(bits.subList(i, i + 15));
            if (!Wire.holds(fifteen, 53, 5)) {
                List<List<Integer>> ways = new ArrayList<>();
                for (int k = 0; k < 15; k++) {
                    List<Integer> turned = new ArrayList<>(fifteen);
                    turned.set(k, 1 - turned.get(k));
                    if (Wire.holds(turned, 53, 5)) {
                        ways.add(turned);
                    }
                }
                bad |= ways.isEmpty();
                end.corrected += ways.size();
                fifteen = ways.isEmpty() ? fifteen : ways.get(0);
            }
            tens.addAll(fifteen.subList(0, 10));
        }
        return bad ? null : tens;
    }

    private static void use(End end, List<Integer> bytes, boolean begins) {
        if (begins) {
            end.dropped += end.building == null ? 0 : 1;
            end.building = new ArrayList<>(bytes.subList(1, bytes.size()));
            end.due = bytes.get(0);
        } else if (end.building != null) {
            end.building.addAll(bytes);
        } else {
            return;
        }
        if (end.building.size() == end.due && end.taken.size() < 6) {
            end.taken.add(end.building);
            end.building = null;
        } else if (end.building.size() >= end.due) {
            end.dropped++;
            end.building = null;
        }
    }

    int read(int device, int i) {
        if (off(device) || ends[device].taken.isEmpty()) {
            return -1;
        }
        List<Integer> oldest = ends[device].taken.get(0);
        return i >= 0 && i < oldest.size() ? oldest.get(i) : -1;
    }

    int next(int device) {
        return off(device) || ends[device].taken.isEmpty() ? -1 : ends[device].taken.remove(0).size();
    }

    int state(int device, int what) {
        if (off(device) || what < 0 || what > 9) {
            return -1;
        }
        End end = ends[device];
        return Arrays.asList(end.toSend.size(), end.taken.size(), end.left.size(),
            end.frame == null ? 0 : end.frame.size(), end.building == null ? 0 : end.building.size(),
            end.dropped, end.corrected, end.turn, end.good ? 1 : 0, end.heard ? 1 : 0).get(what);
    }

    int count(int what) {
        return what < 0 || what > 3 ? -1
            : List.of(clock, air.size(), ends[0].written.size(), ends[1].written.size()).get(what);
    }
}
