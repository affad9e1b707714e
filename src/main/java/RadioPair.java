/** A radio link of two devices that speak in turn; ../shared/DOC.md says what each call does. */
public final class RadioPair {
    public static final int REFUSED = -1;
    public static final int FULL = -2;
    public static final int SILENT = 0;
    public static final int POLL = 1;
    public static final int IDLE = 2;
    public static final int GUARDED = 3;
    public static final int PLAIN = 4;
    public static final int LOST = 5;
    public static final int TAKEN = 6;
    public static final int BAD = 7;
    public static final int AGAIN = 8;
    public static final int HEAD = 9;

    private static final int DEVICES = 2;
    private static final int ROW_MESSAGES = 6;
    private static final int SENT_BYTES = 40;
    // Bits turned over on the air can make a length byte say more than any message sent has.
    private static final int TAKEN_BYTES = 255;
    private static final int GUARDED_BYTES = 9;
    private static final int PLAIN_BYTES = 13;
    // The most that the number at the start of a load can say.
    private static final int LOAD_BYTES = 63;

    private static final int ADDRESS_BITS = 3;
    private static final int KIND_BITS = 4;
    private static final int HEAD_CHECKED = 10;
    private static final int HEAD_DIVISOR = 423;
    private static final int HEAD_CHECK = 8;
    private static final int HEAD_BITS = HEAD_CHECKED + HEAD_CHECK;
    private static final int REPEATS = 3;
    private static final int HEAD_ON_AIR = HEAD_BITS * REPEATS;

    private static final int BYTE_BITS = 8;
    private static final int BEGINS = 2;
    private static final int GOES_ON = 1;
    private static final int LOAD_DIVISOR = 69665;
    private static final int LOAD_CHECK = 16;
    private static final int TEN = 10;
    private static final int TEN_DIVISOR = 53;
    private static final int TEN_CHECK = 5;
    private static final int FIFTEEN = TEN + TEN_CHECK;
    // Ten fifteens, of a guarded load of nine bytes; a plain load of thirteen is shorter.
    private static final int LOAD_ON_AIR = 150;

    private static final int WHITE_START = 64;
    private static final int WHITE_SEED = 7;
    private static final int WHITE_TAP = 3;
    private static final int WHITE_BITS = HEAD_BITS + LOAD_ON_AIR;

    private final Device[] devices;
    private final Coder coder;
    private final Bits onAir;
    private final Frame heardFrame;
    private int clock;

    public RadioPair(int address) {
        devices = new Device[DEVICES];
        devices[0] = new Device(POLL);
        devices[1] = new Device(IDLE);
        coder = new Coder(Math.max(1, Math.min(7, address)));
        onAir = new Bits(HEAD_ON_AIR + LOAD_ON_AIR);
        heardFrame = new Frame();
    }

    public int guard(int device, boolean on) {
        if (!isDevice(device)) {
            return REFUSED;
        }
        devices[device].outbox.guarded = on;
        return 0;
    }

    public int write(int device, int b) {
        if (!isDevice(device) || b < 0 || b > 255) {
            return REFUSED;
        }
        Message written = devices[device].outbox.written;
        if (written.isFull()) {
            return FULL;
        }
        written.add(b);
        return written.size;
    }

    public int send(int device) {
        if (!isDevice(device)) {
            return REFUSED;
        }
        Outbox outbox = devices[device].outbox;
        if (outbox.written.size == 0) {
            return REFUSED;
        }
        if (outbox.waiting.isFull()) {
            return FULL;
        }
        outbox.waiting.append(outbox.written);
        outbox.written.clear();
        return outbox.waiting.size;
    }

    public int slot() {
        onAir.clear();
        Frame frame = devices[deviceOfTurn()].speak();
        if (frame != null) {
            coder.put(frame, clock, onAir);
        }
        clock++;
        return frame == null ? SILENT : frame.kind;
    }

    public int air(int i) {
        return onAir.has(i) ? onAir.at(i) : REFUSED;
    }

    public int flip(int i) {
        if (!onAir.has(i)) {
            return REFUSED;
        }
        onAir.turnOver(i);
        return 0;
    }

    public int hear() {
        if (onAir.length == 0) {
            return SILENT;
        }
        int outcome = coder.take(onAir, clock - 1, heardFrame);
        onAir.clear();
        // The device that speaks next is the one that did not speak last.
        return outcome == LOST ? LOST : devices[deviceOfTurn()].heed(heardFrame, outcome);
    }

    public int read(int device, int i) {
        if (!isDevice(device)) {
            return REFUSED;
        }
        Message oldest = devices[device].inbox.taken.oldest();
        return oldest != null && oldest.has(i) ? oldest.at(i) : REFUSED;
    }

    public int next(int device) {
        if (!isDevice(device)) {
            return REFUSED;
        }
        MessageRow taken = devices[device].inbox.taken;
        Message oldest = taken.oldest();
        if (oldest == null) {
            return REFUSED;
        }
        taken.dropOldest();
        return oldest.size;
    }

    public int state(int device, int what) {
        return isDevice(device) ? devices[device].tell(what) : REFUSED;
    }

    public int count(int what) {
        switch (what) {
            case 0:
                return clock;
            case 1:
                return onAir.length;
            case 2:
                return devices[0].outbox.written.size;
            case 3:
                return devices[1].outbox.written.size;
            default:
                return REFUSED;
        }
    }

    private static boolean isDevice(int device) {
        return device >= 0 && device < DEVICES;
    }

    private int deviceOfTurn() {
        return clock & 1;
    }

    /** A row of bits; what would be longer than its room is cut off. */
    private static final class Bits {
        final int[] row;
        int length;

        Bits(int room) {
            row = new int[room];
        }

        void clear() {
            length = 0;
        }

        boolean has(int i) {
            return i >= 0 && i < length;
        }

        int at(int i) {
            return i >= 0 && i < length ? row[i] : 0;
        }

        void turnOver(int i) {
            if (has(i)) {
                row[i] ^= 1;
            }
        }

        void add(int bit) {
            if (length < row.length) {
                row[length] = bit & 1;
                length++;
            }
        }

        void addAll(Bits from, int start, int n) {
            for (int i = 0; i < n; i++) {
                add(from.at(start + i));
            }
        }

        void addNumber(int number, int n) {
            for (int i = 0; i < n; i++) {
                add(number >> i);
            }
        }

        void addRemainder(int number, int n) {
            for (int i = n - 1; i >= 0; i--) {
                add(number >> i);
            }
        }

        int numberAt(int start, int n) {
            int number = 0;
            for (int i = 0; i < n; i++) {
                number |= at(start + i) << i;
            }
            return number;
        }

        /** REM of the first bits. */
        int remainderOf(int bits, int divisor, int n) {
            int rest = 0;
            for (int i = 0; i < bits; i++) {
                // A bit that comes in at the top is already multiplied by x to the n.
                rest = (rest << 1) ^ (at(i) << n);
                if ((rest >> n & 1) == 1) {
                    rest ^= divisor;
                }
            }
            return rest;
        }

        /** Whether the n bits behind the first ones are their remainder. */
        boolean holds(int bits, int divisor, int n) {
            int rest = remainderOf(bits, divisor, n);
            for (int i = 0; i < n; i++) {
                if (at(bits + i) != (rest >> (n - 1 - i) & 1)) {
                    return false;
                }
            }
            return true;
        }

        void whiten(Bits white, int start) {
            for (int i = 0; i < length; i++) {
                row[i] ^= white.at(start + i);
            }
        }
    }

    /** What a device says in one slot, on either side of the air. */
    private static final class Frame {
        final Message bytes = new Message(LOAD_BYTES);
        int kind;
        int ack;
        int turn;
        boolean begins;
        // Known only of a frame that was taken from the air.
        int corrected;

        boolean hasLoad() {
            return kind == GUARDED || kind == PLAIN;
        }
    }

    /** Turns frames into bits on the air, and back. */
    private static final class Coder {
        final int address;
        final Bits white = new Bits(WHITE_BITS);
        final Bits head = new Bits(HEAD_BITS);
        final Bits load = new Bits(LOAD_ON_AIR);
        final Bits fifteen = new Bits(FIFTEEN);

        Coder(int address) {
            this.address = address;
        }

        void put(Frame frame, int clock, Bits onAir) {
            makeWhite(clock);
            putHead(frame, onAir);
            if (frame.hasLoad()) {
                makeLoad(frame);
                if (frame.kind == GUARDED) {
                    putTens(onAir);
                } else {
                    onAir.addAll(load, 0, load.length);
                }
            }
        }

        /** LOST, HEAD, BAD or TAKEN; the frame holds what could be read of it. */
        int take(Bits onAir, int clock, Frame frame) {
            makeWhite(clock);
            frame.corrected = 0;
            frame.bytes.clear();
            takeHead(onAir);
            if (!headIsSound()) {
                return LOST;
            }
            readHead(frame);
            if (!frame.hasLoad()) {
                return HEAD;
            }
            load.clear();
            boolean sound = frame.kind == GUARDED ? takeTens(onAir, frame) : takePlain(onAir);
            load.whiten(white, HEAD_BITS);
            return sound && readLoad(frame) ? TAKEN : BAD;
        }

        private void makeWhite(int clock) {
            white.clear();
            white.addNumber(WHITE_START + clock % WHITE_START, WHITE_SEED);
            for (int n = WHITE_SEED; n < WHITE_BITS; n++) {
                white.add(white.at(n - WHITE_SEED) ^ white.at(n - WHITE_TAP));
            }
        }

        private void putHead(Frame frame, Bits onAir) {
            head.clear();
            head.addNumber(address, ADDRESS_BITS);
            head.addNumber(frame.kind, KIND_BITS);
            head.add(1);
            head.add(frame.ack);
            head.add(frame.turn);
            head.addRemainder(head.remainderOf(HEAD_CHECKED, HEAD_DIVISOR, HEAD_CHECK), HEAD_CHECK);
            head.whiten(white, 0);
            for (int i = 0; i < HEAD_ON_AIR; i++) {
                onAir.add(head.at(i / REPEATS));
            }
        }

        private void makeLoad(Frame frame) {
            load.clear();
            load.addNumber(4 * frame.bytes.size + (frame.begins ? BEGINS : GOES_ON), BYTE_BITS);
            for (int i = 0; i < frame.bytes.size; i++) {
                load.addNumber(frame.bytes.at(i), BYTE_BITS);
            }
            load.addRemainder(load.remainderOf(load.length, LOAD_DIVISOR, LOAD_CHECK), LOAD_CHECK);
            load.whiten(white, HEAD_BITS);
        }

        private void putTens(Bits onAir) {
            for (int start = 0; start < load.length; start += TEN) {
                fifteen.clear();
                // Behind the load's end stand zeros, which fill the last ten.
                fifteen.addAll(load, start, TEN);
                fifteen.addRemainder(fifteen.remainderOf(TEN, TEN_DIVISOR, TEN_CHECK), TEN_CHECK);
                onAir.addAll(fifteen, 0, FIFTEEN);
            }
        }

        private void takeHead(Bits onAir) {
            head.clear();
            for (int i = 0; i < HEAD_BITS; i++) {
                int first = REPEATS * i;
                int ones = onAir.at(first) + onAir.at(first + 1) + onAir.at(first + 2);
                head.add(ones >= 2 ? 1 : 0);
            }
            head.whiten(white, 0);
        }

        private boolean headIsSound() {
            int kind = head.numberAt(ADDRESS_BITS, KIND_BITS);
            return head.holds(HEAD_CHECKED, HEAD_DIVISOR, HEAD_CHECK)
                && head.numberAt(0, ADDRESS_BITS) == address
                && head.at(ADDRESS_BITS + KIND_BITS) == 1
                && kind >= POLL && kind <= PLAIN;
        }

        private void readHead(Frame frame) {
            frame.kind = head.numberAt(ADDRESS_BITS, KIND_BITS);
            frame.ack = head.at(HEAD_CHECKED - 2);
            frame.turn = head.at(HEAD_CHECKED - 1);
        }

        private boolean takePlain(Bits onAir) {
            load.addAll(onAir, HEAD_ON_AIR, onAir.length - HEAD_ON_AIR);
            return true;
        }

        /** Goes on behind a fifteen that can't be mended: what is corrected there counts too. */
        private boolean takeTens(Bits onAir, Frame frame) {
            boolean sound = true;
            for (int end = HEAD_ON_AIR + FIFTEEN; end <= onAir.length; end += FIFTEEN) {
                fifteen.clear();
                fifteen.addAll(onAir, end - FIFTEEN, FIFTEEN);
                if (!fifteen.holds(TEN, TEN_DIVISOR, TEN_CHECK)) {
                    boolean mended = mendFifteen();
                    frame.corrected += mended ? 1 : 0;
                    sound = sound && mended;
                }
                load.addAll(fifteen, 0, TEN);
            }
            return sound;
        }

        private boolean mendFifteen() {
            for (int i = 0; i < FIFTEEN; i++) {
                fifteen.turnOver(i);
                if (fifteen.holds(TEN, TEN_DIVISOR, TEN_CHECK)) {
                    return true;
                }
                fifteen.turnOver(i);
            }
            return false;
        }

        private boolean readLoad(Frame frame) {
            int number = load.numberAt(0, BYTE_BITS);
            int size = number / 4;
            int mark = number % 4;
            int checked = BYTE_BITS + BYTE_BITS * size;
            if (load.length < checked + LOAD_CHECK || size == 0) {
                return false;
            }
            if (mark != BEGINS && mark != GOES_ON) {
                return false;
            }
            if (!load.holds(checked, LOAD_DIVISOR, LOAD_CHECK)) {
                return false;
            }
            frame.begins = mark == BEGINS;
            for (int i = 1; i <= size; i++) {
                frame.bytes.add(load.numberAt(BYTE_BITS * i, BYTE_BITS));
            }
            return true;
        }
    }

    /** A row of bytes; what would be longer than its room is cut off. */
    private static final class Message {
        final int[] bytes;
        int size;

        Message(int room) {
            bytes = new int[room];
        }

        void clear() {
            size = 0;
        }

        boolean isFull() {
            return size >= bytes.length;
        }

        boolean has(int i) {
            return i >= 0 && i < size;
        }

        int at(int i) {
            return i >= 0 && i < size ? bytes[i] : 0;
        }

        void add(int b) {
            if (size < bytes.length) {
                bytes[size] = b;
                size++;
            }
        }

        void addAll(Message from, int start, int end) {
            for (int i = start; i < end; i++) {
                add(from.at(i));
            }
        }

        void become(Message other) {
            size = Math.min(other.size, bytes.length);
            System.arraycopy(other.bytes, 0, bytes, 0, size);
        }
    }

    /** Up to six messages, oldest first, in rooms that are used again in a ring. */
    private static final class MessageRow {
        final Message[] ring;
        int first;
        int size;

        MessageRow(int room) {
            ring = new Message[ROW_MESSAGES];
            for (int i = 0; i < ROW_MESSAGES; i++) {
                ring[i] = new Message(room);
            }
        }

        boolean isFull() {
            return size >= ROW_MESSAGES;
        }

        Message oldest() {
            return size == 0 ? null : ring[first];
        }

        void append(Message message) {
            if (!isFull()) {
                ring[(first + size) % ROW_MESSAGES].become(message);
                size++;
            }
        }

        void dropOldest() {
            if (size > 0) {
                first = (first + 1) % ROW_MESSAGES;
                size--;
            }
        }
    }

    /** What a device has to send, down to the frame that waits for its acknowledgement. */
    private static final class Outbox {
        final Message written = new Message(SENT_BYTES);
        final MessageRow waiting = new MessageRow(SENT_BYTES);
        // As it goes on the air: the length byte stands before the bytes.
        final Message sending = new Message(1 + SENT_BYTES);
        final Frame frame = new Frame();
        int framed;
        boolean frameWaits;
        boolean guarded = true;
        int turn;

        int bytesLeft() {
            return sending.size - framed;
        }

        int bytesUnacknowledged() {
            return frameWaits ? frame.bytes.size : 0;
        }

        /** The frame with a load that is to go out now, null if there is none. */
        Frame loaded() {
            if (!frameWaits) {
                if (bytesLeft() == 0) {
                    beginMessage();
                }
                if (bytesLeft() > 0) {
                    makeFrame();
                }
            }
            return frameWaits ? frame : null;
        }

        void acknowledge() {
            frameWaits = false;
        }

        private void beginMessage() {
            Message oldest = waiting.oldest();
            if (oldest != null) {
                sending.clear();
                sending.add(oldest.size);
                sending.addAll(oldest, 0, oldest.size);
                framed = 0;
                waiting.dropOldest();
            }
        }

        private void makeFrame() {
            int size = Math.min(bytesLeft(), guarded ? GUARDED_BYTES : PLAIN_BYTES);
            turn ^= 1;
            frame.kind = guarded ? GUARDED : PLAIN;
            frame.turn = turn;
            frame.begins = framed == 0;
            frame.bytes.clear();
            frame.bytes.addAll(sending, framed, framed + size);
            framed += size;
            frameWaits = true;
        }
    }

    /** What a device has taken, and the message that it puts together from loads. */
    private static final class Inbox {
        final MessageRow taken = new MessageRow(TAKEN_BYTES);
        // A load can bring more bytes than are due, and that has to show.
        final Message partial = new Message(TAKEN_BYTES + LOAD_BYTES);
        boolean putsTogether;
        int due;
        int lastTurn;
        int dropped;
        int corrected;

        int bytesSoFar() {
            return putsTogether ? partial.size : 0;
        }

        boolean isNew(Frame frame) {
            return frame.turn != lastTurn;
        }

        void use(Frame frame) {
            lastTurn = frame.turn;
            if (frame.begins) {
                beginMessage(frame.bytes.at(0));
                partial.addAll(frame.bytes, 1, frame.bytes.size);
            } else if (putsTogether) {
                partial.addAll(frame.bytes, 0, frame.bytes.size);
            }
            if (putsTogether && partial.size >= due) {
                endMessage();
            }
        }

        private void beginMessage(int length) {
            if (putsTogether) {
                dropped++;
            }
            putsTogether = true;
            partial.clear();
            due = length;
        }

        private void endMessage() {
            putsTogether = false;
            if (partial.size > due || taken.isFull()) {
                dropped++;
            } else {
                taken.append(partial);
            }
        }
    }

    /** One of the two ends of the link. */
    private static final class Device {
        final Outbox outbox = new Outbox();
        final Inbox inbox = new Inbox();
        final Frame bare = new Frame();
        boolean good;
        boolean heard;

        Device(int bareKind) {
            bare.kind = bareKind;
        }

        /** The frame for the air, null if the device stays silent. */
        Frame speak() {
            if (bare.kind == IDLE && !heard) {
                return null;
            }
            Frame frame = outbox.loaded();
            if (frame == null) {
                bare.turn = outbox.turn;
                frame = bare;
            }
            frame.ack = good ? 1 : 0;
            good = false;
            heard = false;
            return frame;
        }

        /** What a frame that is not LOST comes to: HEAD, BAD, AGAIN or TAKEN. */
        int heed(Frame frame, int outcome) {
            heard = true;
            inbox.corrected += frame.corrected;
            if (frame.ack == 1) {
                outbox.acknowledge();
            }
            if (outcome != TAKEN) {
                return outcome;
            }
            good = true;
            if (!inbox.isNew(frame)) {
                return AGAIN;
            }
            inbox.use(frame);
            return TAKEN;
        }

        int tell(int what) {
            switch (what) {
                case 0:
                    return outbox.waiting.size;
                case 1:
                    return inbox.taken.size;
                case 2:
                    return outbox.bytesLeft();
                case 3:
                    return outbox.bytesUnacknowledged();
                case 4:
                    return inbox.bytesSoFar();
                case 5:
                    return inbox.dropped;
                case 6:
                    return inbox.corrected;
                case 7:
                    return outbox.turn;
                case 8:
                    return good ? 1 : 0;
                case 9:
                    return heard ? 1 : 0;
                default:
                    return REFUSED;
            }
        }
    }
}
