public final class TelemetryLink {
    public static final int NONE = -1;

    private static final int CHANNELS = 4;
    private static final int IDLE_CHANNEL = 7;
    private static final int APPLICATIONS = 15;
    private static final int IDLE_APPLICATION = 15;
    private static final int QUEUE_LIMIT = 12;
    private static final int WIRE_LIMIT = 60;
    private static final int KEPT_PACKETS = 30;
    private static final int UNDO_LIMIT = 3;

    private static final int SHORTEST_FRAME = 8;
    private static final int LONGEST_FRAME = 40;
    private static final int FIRST_FRAME_LENGTH = 16;
    private static final int HEADER_BYTES = 4;
    private static final int CHECK_BYTES = 2;
    private static final int NO_HEADER = 255;
    private static final int IDLE_HEADER = 254;

    private static final int PACKET_HEADER = 3;
    private static final int LONGEST_DATA = 50;
    private static final int LARGEST_BYTE = 255;

    private static final int LARGEST_PRIORITY = 9;
    private static final int LARGEST_WAIT = 50;
    private static final int LARGEST_DRIFT = 1000;
    private static final int LARGEST_DELAY = 100000;
    private static final long LARGEST_CLOCK = 1000000000L;
    private static final long HASH_START = 12171L;

    private State now;
    private final State[] saved;
    private int savedStates;

    public TelemetryLink() {
        now = new State();
        saved = new State[UNDO_LIMIT];
        for (int i = 0; i < UNDO_LIMIT; i++) {
            saved[i] = new State();
        }
        savedStates = 0;
    }

    // ---- settings

    public int setFrameLength(int length) throws IllegalArgumentException, IllegalStateException {
        if (outside(length, SHORTEST_FRAME, LONGEST_FRAME)) {
            throw new IllegalArgumentException("length is out of range");
        }
        if (now.hasPendingBytes()) {
            throw new IllegalStateException("a channel has pending bytes");
        }
        saveState();
        int previous = now.frameLength;
        now.frameLength = length;
        return previous;
    }

    public int setChannel(int channel, int priority, int bound, int hold)
            throws IndexOutOfBoundsException, IllegalArgumentException {
        if (outside(channel, 0, CHANNELS - 1)) {
            throw new IndexOutOfBoundsException("no such channel");
        }
        if (outside(priority, 0, LARGEST_PRIORITY)
                || outside(bound, 0, LARGEST_WAIT)
                || outside(hold, 0, LARGEST_WAIT)) {
            throw new IllegalArgumentException("priority, bound or hold is out of range");
        }
        saveState();
        SendChannel sender = now.senders[channel];
        int previous = sender.priority;
        sender.priority = priority;
        sender.bound = bound;
        sender.hold = hold;
        return previous;
    }

    public int setClock(int drift, int delay) throws IllegalArgumentException {
        if (outside(drift, -LARGEST_DRIFT, LARGEST_DRIFT) || outside(delay, 0, LARGEST_DELAY)) {
            throw new IllegalArgumentException("drift or delay is out of range");
        }
        saveState();
        int previous = now.drift;
        now.drift = drift;
        now.delay = delay;
        return previous;
    }

    // ---- sending

    public int addPacket(int channel, int application, int length, int seed)
            throws IndexOutOfBoundsException, IllegalArgumentException, IllegalStateException {
        if (outside(channel, 0, CHANNELS - 1)) {
            throw new IndexOutOfBoundsException("no such channel");
        }
        if (outside(application, 0, APPLICATIONS - 1)
                || outside(length, 1, LONGEST_DATA)
                || outside(seed, 0, LARGEST_BYTE)) {
            throw new IllegalArgumentException("application, length or seed is out of range");
        }
        if (now.senders[channel].waitingPackets() >= QUEUE_LIMIT) {
            throw new IllegalStateException("the queue is full");
        }
        saveState();
        return now.enqueue(channel, application, length, seed);
    }

    public int queue(int channel, int what)
            throws IndexOutOfBoundsException, IllegalArgumentException {
        if (outside(channel, 0, CHANNELS - 1)) {
            throw new IndexOutOfBoundsException("no such channel");
        }
        SendChannel sender = now.senders[channel];
        switch (what) {
            case 0:
                return sender.waitingPackets();
            case 1:
                return sender.pending;
            case 2:
                return sender.wait;
            default:
                throw new IllegalArgumentException("what is out of range");
        }
    }

    public int nextChannel() {
        return now.chosenChannel();
    }

    public int send(int slots) throws IllegalArgumentException, IllegalStateException {
        if (outside(slots, 1, WIRE_LIMIT)) {
            throw new IllegalArgumentException("slots is out of range");
        }
        if (now.wire.size + slots > WIRE_LIMIT) {
            throw new IllegalStateException("too many frames on the wire");
        }
        saveState();
        int busySlots = 0;
        for (int i = 0; i < slots; i++) {
            if (now.sendSlot() != NONE) {
                busySlots++;
            }
        }
        return busySlots;
    }

    public int slot() {
        return now.slot;
    }

    public int sent(int channel, int what)
            throws IndexOutOfBoundsException, IllegalArgumentException {
        if (outside(channel, 0, CHANNELS - 1) && channel != IDLE_CHANNEL) {
            throw new IndexOutOfBoundsException("no such channel");
        }
        if (outside(what, 0, 2)) {
            throw new IllegalArgumentException("what is out of range");
        }
        if (channel == IDLE_CHANNEL) {
            return sentIdle(what);
        }
        SendChannel sender = now.senders[channel];
        if (what == 0) {
            return sender.frames;
        }
        return what == 1 ? sender.idleBytes : sender.latency;
    }

    private int sentIdle(int what) {
        if (what == 0) {
            return now.idleFrames;
        }
        return what == 1 ? 0 : NONE;
    }

    // ---- the wire

    public int wire() {
        return now.wire.size;
    }

    public int frameByte(int frame, int index) throws IndexOutOfBoundsException {
        if (outside(frame, 0, now.wire.size - 1)
                || outside(index, 0, now.wire.frames[frame].size() - 1)) {
            throw new IndexOutOfBoundsException("no such frame or byte");
        }
        return now.wire.frames[frame].bytes[index];
    }

    public int corrupt(int frame, int index, int mask)
            throws IndexOutOfBoundsException, IllegalArgumentException {
        if (outside(frame, 0, now.wire.size - 1)
                || outside(index, 0, now.wire.frames[frame].size() - 1)) {
            throw new IndexOutOfBoundsException("no such frame or byte");
        }
        if (outside(mask, 1, LARGEST_BYTE)) {
            throw new IllegalArgumentException("mask is out of range");
        }
        saveState();
        int[] bytes = now.wire.frames[frame].bytes;
        bytes[index] ^= mask;
        return bytes[index];
    }

    public int repair(int frame) throws IndexOutOfBoundsException {
        if (outside(frame, 0, now.wire.size - 1)) {
            throw new IndexOutOfBoundsException("no such frame");
        }
        saveState();
        return now.wire.frames[frame].setRightCheck();
    }

    public int lose(int frame) throws IndexOutOfBoundsException {
        if (outside(frame, 0, now.wire.size - 1)) {
            throw new IndexOutOfBoundsException("no such frame");
        }
        saveState();
        now.wire.frames[frame].lost = true;
        return now.wire.lostFrames();
    }

    // ---- reception

    public int receive(int frames) throws IllegalArgumentException, IllegalStateException {
        if (outside(frames, 1, WIRE_LIMIT)) {
            throw new IllegalArgumentException("frames is out of range");
        }
        if (frames > now.wire.size) {
            throw new IllegalStateException("fewer frames on the wire");
        }
        saveState();
        int delivered = 0;
        for (int i = 0; i < frames; i++) {
            delivered += now.receiver.take(now.wire.frames[i]);
        }
        now.wire.removeFirst(frames);
        return delivered;
    }

    public int count(int what) throws IllegalArgumentException {
        if (outside(what, 0, Receiver.COUNTS - 1)) {
            throw new IllegalArgumentException("what is out of range");
        }
        return now.receiver.counts[what];
    }

    public int received(int channel, int what)
            throws IndexOutOfBoundsException, IllegalArgumentException {
        if (outside(channel, 0, CHANNELS - 1)) {
            throw new IndexOutOfBoundsException("no such channel");
        }
        ReceiveChannel receiver = now.receiver.channels[channel];
        switch (what) {
            case 0:
                return receiver.frames;
            case 1:
                return receiver.missing;
            case 2:
                return receiver.partialSize;
            case 3:
                return receiver.inStep ? 1 : 0;
            default:
                throw new IllegalArgumentException("what is out of range");
        }
    }

    public int application(int application, int what)
            throws IndexOutOfBoundsException, IllegalArgumentException {
        if (outside(application, 0, APPLICATIONS - 1)) {
            throw new IndexOutOfBoundsException("no such application");
        }
        switch (what) {
            case 0:
                return now.receiver.appPackets[application];
            case 1:
                return now.receiver.appMissing[application];
            case 2:
                return now.receiver.appBytes[application];
            default:
                throw new IllegalArgumentException("what is out of range");
        }
    }

    public int packets() {
        return now.receiver.delivered.size;
    }

    public int packet(int index, int what)
            throws IndexOutOfBoundsException, IllegalArgumentException {
        if (outside(index, 0, now.receiver.delivered.size - 1)) {
            throw new IndexOutOfBoundsException("no such packet");
        }
        DeliveredPacket found = now.receiver.delivered.kept[index];
        switch (what) {
            case 0:
                return found.channel;
            case 1:
                return found.application;
            case 2:
                return found.sequence;
            case 3:
                return found.length;
            case 4:
                return found.sum();
            default:
                throw new IllegalArgumentException("what is out of range");
        }
    }

    public int packetByte(int index, int position) throws IndexOutOfBoundsException {
        if (outside(index, 0, now.receiver.delivered.size - 1)
                || outside(position, 0, now.receiver.delivered.kept[index].length - 1)) {
            throw new IndexOutOfBoundsException("no such packet or byte");
        }
        return now.receiver.delivered.kept[index].data[position];
    }

    // ---- time

    public long clock() {
        return now.boardTime();
    }

    public int timePairs() {
        return now.receiver.times.size;
    }

    public long groundTime(long clock) throws IllegalArgumentException, IllegalStateException {
        if (clock < -LARGEST_CLOCK || clock > LARGEST_CLOCK) {
            throw new IllegalArgumentException("clock is out of range");
        }
        TimePairs times = now.receiver.times;
        long boardSpan = times.boardTimes[1] - times.boardTimes[0];
        if (times.size < TimePairs.KEPT || boardSpan == 0) {
            throw new IllegalStateException("no two time pairs with two clock values");
        }
        long groundSpan = times.groundTimes[1] - times.groundTimes[0];
        long product = (clock - times.boardTimes[1]) * groundSpan;
        return times.groundTimes[1] + Math.floorDiv(product, boardSpan);
    }

    // ---- undo and checksum

    public int undo() throws IllegalStateException {
        if (savedStates <= 0) {
            throw new IllegalStateException("the undo stack is empty");
        }
        savedStates--;
        State dropped = now;
        now = saved[savedStates];
        saved[savedStates] = dropped;
        return savedStates;
    }

    public long digest() {
        long hash = HASH_START;
        hash = mix(hash, savedStates);
        hash = mix(hash, now.frameLength);
        hash = mix(hash, now.drift);
        hash = mix(hash, now.delay);
        hash = mix(hash, slot());
        hash = mix(hash, nextChannel());
        hash = mix(hash, clock());
        hash = mixChannels(hash);
        hash = mixWire(hash);
        hash = mixCounts(hash);
        hash = mixPackets(hash);
        return mixTimes(hash);
    }

    private long mixChannels(long start) {
        long hash = start;
        for (int channel = 0; channel < CHANNELS; channel++) {
            SendChannel sender = now.senders[channel];
            hash = mix(hash, sender.priority);
            hash = mix(hash, sender.bound);
            hash = mix(hash, sender.hold);
            for (int what = 0; what <= 2; what++) {
                hash = mix(hash, queue(channel, what));
            }
            for (int what = 0; what <= 2; what++) {
                hash = mix(hash, sent(channel, what));
            }
            for (int what = 0; what <= 3; what++) {
                hash = mix(hash, received(channel, what));
            }
        }
        return mix(hash, sent(IDLE_CHANNEL, 0));
    }

    private long mixWire(long start) {
        long hash = mix(start, wire());
        for (int i = 0; i < now.wire.size; i++) {
            Frame frame = now.wire.frames[i];
            hash = mix(hash, frame.lost ? 1 : 0);
            hash = mix(hash, frame.headerPointer());
            hash = mix(hash, frame.checkValue());
        }
        return hash;
    }

    private long mixCounts(long start) {
        long hash = start;
        for (int what = 0; what < Receiver.COUNTS; what++) {
            hash = mix(hash, count(what));
        }
        for (int application = 0; application < APPLICATIONS; application++) {
            for (int what = 0; what <= 2; what++) {
                hash = mix(hash, application(application, what));
            }
        }
        return hash;
    }

    private long mixPackets(long start) {
        long hash = mix(start, packets());
        for (int index = 0; index < packets(); index++) {
            for (int what = 0; what <= 4; what++) {
                hash = mix(hash, packet(index, what));
            }
        }
        return hash;
    }

    private long mixTimes(long start) {
        TimePairs times = now.receiver.times;
        long hash = mix(start, times.size);
        for (int i = 0; i < times.size; i++) {
            hash = mix(hash, times.boardTimes[i]);
            hash = mix(hash, times.groundTimes[i]);
        }
        return hash;
    }

    private static long mix(long hash, long value) {
        return 31 * hash + value;
    }

    private static boolean outside(int value, int lowest, int highest) {
        return value < lowest || value > highest;
    }

    // The rows of the oldest state are used again, so that saving makes no objects.
    private void saveState() {
        if (savedStates >= UNDO_LIMIT) {
            State oldest = saved[0];
            for (int i = 1; i < UNDO_LIMIT; i++) {
                saved[i - 1] = saved[i];
            }
            saved[UNDO_LIMIT - 1] = oldest;
            savedStates = UNDO_LIMIT - 1;
        }
        saved[savedStates].copyFrom(now);
        savedStates++;
    }

    // All that a call can change and that undo brings back.
    private static final class State {
        int frameLength = FIRST_FRAME_LENGTH;
        int drift = 0;
        int delay = 250;
        int slot = 0;
        int idleFrames = 0;
        final int[] sequences = new int[APPLICATIONS];
        final SendChannel[] senders = new SendChannel[CHANNELS];
        final Wire wire = new Wire();
        final Receiver receiver = new Receiver();

        State() {
            for (int i = 0; i < CHANNELS; i++) {
                senders[i] = new SendChannel();
            }
        }

        void copyFrom(State other) {
            frameLength = other.frameLength;
            drift = other.drift;
            delay = other.delay;
            slot = other.slot;
            idleFrames = other.idleFrames;
            System.arraycopy(other.sequences, 0, sequences, 0, APPLICATIONS);
            for (int i = 0; i < CHANNELS; i++) {
                senders[i].copyFrom(other.senders[i]);
            }
            wire.copyFrom(other.wire);
            receiver.copyFrom(other.receiver);
        }

        boolean hasPendingBytes() {
            for (int i = 0; i < CHANNELS; i++) {
                if (senders[i].pending > 0) {
                    return true;
                }
            }
            return false;
        }

        int enqueue(int channel, int application, int length, int seed) {
            int sequence = sequences[application];
            sequences[application] = (sequence + 1) & LARGEST_BYTE;
            senders[channel].append(application, sequence, length, seed, slot);
            return sequence;
        }

        long boardTime() {
            return 1000L * slot + Math.floorDiv((long) slot * drift, 16L);
        }

        long groundArrival() {
            return 1000L * slot + delay;
        }

        int chosenChannel() {
            int best = NONE;
            for (int i = 0; i < CHANNELS; i++) {
                if (senders[i].isOverdue()
                        && (best == NONE || senders[i].isMoreOverdueThan(senders[best]))) {
                    best = i;
                }
            }
            return best == NONE ? readyChannel() : best;
        }

        int readyChannel() {
            int best = NONE;
            for (int i = 0; i < CHANNELS; i++) {
                if (senders[i].isReady(frameLength)
                        && (best == NONE || senders[i].precedes(senders[best]))) {
                    best = i;
                }
            }
            return best;
        }

        int sendSlot() {
            int channel = chosenChannel();
            for (int i = 0; i < CHANNELS; i++) {
                senders[i].passSlot(i == channel);
            }
            Frame frame = wire.append();
            frame.begin(frameLength, boardTime(), groundArrival());
            frame.bytes[0] = slot & LARGEST_BYTE;
            if (channel == NONE) {
                frame.bytes[1] = IDLE_CHANNEL;
                frame.bytes[2] = idleFrames & LARGEST_BYTE;
                frame.fillIdle();
                idleFrames++;
            } else {
                frame.bytes[1] = channel;
                senders[channel].fill(frame, slot);
            }
            frame.setRightCheck();
            slot++;
            return channel;
        }
    }

    // A packet on board. Its bytes are computed, so that a queue stays small.
    private static final class QueuedPacket {
        int application;
        int sequence;
        int length;
        int seed;
        int addedSlot;

        void copyFrom(QueuedPacket other) {
            application = other.application;
            sequence = other.sequence;
            length = other.length;
            seed = other.seed;
            addedSlot = other.addedSlot;
        }

        int size() {
            return PACKET_HEADER + length;
        }

        int byteAt(int position) {
            switch (position) {
                case 0:
                    return application;
                case 1:
                    return sequence;
                case 2:
                    return length;
                default:
                    return application == IDLE_APPLICATION
                            ? 170 : (seed + 7 * (position - PACKET_HEADER)) & LARGEST_BYTE;
            }
        }
    }

    // The sending side of a channel.
    private static final class SendChannel {
        // Twelve packets can wait behind the rest of an idle packet. No other idle packet comes
        // behind so many, as they have more bytes than the longest frame.
        static final int CAPACITY = QUEUE_LIMIT + 1;
        static final int SHORTEST_PACKET = 4;

        int priority = 0;
        int bound = 50;
        int hold = 0;
        int wait = 0;
        int pending = 0;
        int frames = 0;
        int idleBytes = 0;
        int latency = NONE;
        int size = 0;
        int sentOfHead = 0;
        final QueuedPacket[] packets = new QueuedPacket[CAPACITY];

        SendChannel() {
            for (int i = 0; i < CAPACITY; i++) {
                packets[i] = new QueuedPacket();
            }
        }

        void copyFrom(SendChannel other) {
            priority = other.priority;
            bound = other.bound;
            hold = other.hold;
            wait = other.wait;
            pending = other.pending;
            frames = other.frames;
            idleBytes = other.idleBytes;
            latency = other.latency;
            size = other.size;
            sentOfHead = other.sentOfHead;
            for (int i = 0; i < size && i < CAPACITY; i++) {
                packets[i].copyFrom(other.packets[i]);
            }
        }

        int waitingPackets() {
            int waiting = 0;
            for (int i = 0; i < size && i < CAPACITY; i++) {
                if (packets[i].application != IDLE_APPLICATION) {
                    waiting++;
                }
            }
            return waiting;
        }

        boolean isOverdue() {
            return pending > 0 && wait >= bound;
        }

        boolean isReady(int frameLength) {
            return pending >= frameLength || (pending > 0 && wait >= hold);
        }

        boolean isMoreOverdueThan(SendChannel other) {
            int mine = wait - bound;
            int others = other.wait - other.bound;
            return mine > others || (mine == others && precedes(other));
        }

        boolean precedes(SendChannel other) {
            return priority > other.priority
                    || (priority == other.priority && wait > other.wait);
        }

        void passSlot(boolean getsFrame) {
            wait = getsFrame || pending == 0 ? 0 : wait + 1;
        }

        void append(int application, int sequence, int length, int seed, int slot) {
            int place = Math.min(size, CAPACITY - 1);
            QueuedPacket added = packets[place];
            added.application = application;
            added.sequence = sequence;
            added.length = length;
            added.seed = seed;
            added.addedSlot = slot;
            size = place + 1;
            pending += added.size();
        }

        void fill(Frame frame, int slot) {
            int length = frame.length;
            if (pending < length) {
                int idleSize = Math.max(SHORTEST_PACKET, length - pending);
                append(IDLE_APPLICATION, 0, idleSize - PACKET_HEADER, 0, slot);
            }
            int pointer = NO_HEADER;
            for (int i = 0; i < length && i < LONGEST_FRAME; i++) {
                if (sentOfHead == 0 && pointer == NO_HEADER) {
                    pointer = i;
                }
                frame.bytes[HEADER_BYTES + i] = takeByte(slot);
            }
            frame.bytes[2] = frames & LARGEST_BYTE;
            frame.bytes[3] = pointer;
            frames++;
        }

        int takeByte(int slot) {
            QueuedPacket head = packets[0];
            int value = head.byteAt(sentOfHead);
            sentOfHead++;
            pending--;
            if (head.application == IDLE_APPLICATION) {
                idleBytes++;
            }
            if (sentOfHead >= head.size()) {
                if (head.application != IDLE_APPLICATION) {
                    latency = Math.max(latency, slot - head.addedSlot);
                }
                removeHead();
            }
            return value;
        }

        void removeHead() {
            QueuedPacket head = packets[0];
            for (int i = 1; i < size && i < CAPACITY; i++) {
                packets[i - 1] = packets[i];
            }
            int last = size - 1;
            if (last >= 0 && last < CAPACITY) {
                packets[last] = head;
                size = last;
            }
            sentOfHead = 0;
        }
    }

    private static final class Frame {
        static final int MOST_BYTES = HEADER_BYTES + LONGEST_FRAME + CHECK_BYTES;

        int length = SHORTEST_FRAME;
        boolean lost = false;
        long boardTime = 0;
        long groundTime = 0;
        final int[] bytes = new int[MOST_BYTES];

        void copyFrom(Frame other) {
            length = other.length;
            lost = other.lost;
            boardTime = other.boardTime;
            groundTime = other.groundTime;
            System.arraycopy(other.bytes, 0, bytes, 0, MOST_BYTES);
        }

        void begin(int dataLength, long board, long ground) {
            length = dataLength;
            lost = false;
            boardTime = board;
            groundTime = ground;
        }

        int size() {
            return HEADER_BYTES + length + CHECK_BYTES;
        }

        int headerPointer() {
            return bytes[3];
        }

        void fillIdle() {
            bytes[3] = IDLE_HEADER;
            for (int i = 0; i < length && i < LONGEST_FRAME; i++) {
                bytes[HEADER_BYTES + i] = 85;
            }
        }

        int checkPlace() {
            return Math.min(HEADER_BYTES + length, MOST_BYTES - CHECK_BYTES);
        }

        int checkValue() {
            int place = checkPlace();
            return bytes[place] * 256 + bytes[place + 1];
        }

        int rightCheck() {
            int end = checkPlace();
            int check = 65535;
            for (int i = 0; i < end; i++) {
                check ^= bytes[i] * 256;
                for (int bit = 0; bit < 8; bit++) {
                    check = check >= 32768 ? ((2 * check) ^ 4129) & 65535 : 2 * check;
                }
            }
            return check;
        }

        int setRightCheck() {
            int check = rightCheck();
            int place = checkPlace();
            bytes[place] = check / 256;
            bytes[place + 1] = check % 256;
            return check;
        }
    }

    private static final class Wire {
        int size = 0;
        final Frame[] frames = new Frame[WIRE_LIMIT];

        Wire() {
            for (int i = 0; i < WIRE_LIMIT; i++) {
                frames[i] = new Frame();
            }
        }

        void copyFrom(Wire other) {
            size = other.size;
            for (int i = 0; i < size && i < WIRE_LIMIT; i++) {
                frames[i].copyFrom(other.frames[i]);
            }
        }

        Frame append() {
            int place = Math.min(size, WIRE_LIMIT - 1);
            size = place + 1;
            return frames[place];
        }

        int lostFrames() {
            int lost = 0;
            for (int i = 0; i < size && i < WIRE_LIMIT; i++) {
                if (frames[i].lost) {
                    lost++;
                }
            }
            return lost;
        }

        // The frames that leave change places with those behind them: their rows are used again.
        void removeFirst(int number) {
            for (int i = 0; i + number < size && i + number < WIRE_LIMIT; i++) {
                Frame leaving = frames[i];
                frames[i] = frames[i + number];
                frames[i + number] = leaving;
            }
            size = Math.max(0, size - number);
        }
    }

    private static final class Receiver {
        static final int GOOD = 0;
        static final int BAD = 1;
        static final int MISSING = 2;
        static final int BROKEN = 3;
        static final int IDLE_PACKETS = 4;
        static final int IDLE_FRAMES = 5;
        static final int COUNTS = 6;
        static final int TIME_STEP = 8;

        int lastMaster = 0;
        final int[] counts = new int[COUNTS];
        final int[] appPackets = new int[APPLICATIONS];
        final int[] appMissing = new int[APPLICATIONS];
        final int[] appBytes = new int[APPLICATIONS];
        final int[] appLast = new int[APPLICATIONS];
        final ReceiveChannel[] channels = new ReceiveChannel[CHANNELS];
        final DeliveredList delivered = new DeliveredList();
        final TimePairs times = new TimePairs();

        Receiver() {
            for (int i = 0; i < CHANNELS; i++) {
                channels[i] = new ReceiveChannel();
            }
        }

        void copyFrom(Receiver other) {
            lastMaster = other.lastMaster;
            System.arraycopy(other.counts, 0, counts, 0, COUNTS);
            System.arraycopy(other.appPackets, 0, appPackets, 0, APPLICATIONS);
            System.arraycopy(other.appMissing, 0, appMissing, 0, APPLICATIONS);
            System.arraycopy(other.appBytes, 0, appBytes, 0, APPLICATIONS);
            System.arraycopy(other.appLast, 0, appLast, 0, APPLICATIONS);
            for (int i = 0; i < CHANNELS; i++) {
                channels[i].copyFrom(other.channels[i]);
            }
            delivered.copyFrom(other.delivered);
            times.copyFrom(other.times);
        }

        // Answers the number of packets of applications that the frame completes.
        int take(Frame frame) {
            if (frame.lost) {
                return 0;
            }
            int channel = frame.bytes[1];
            boolean known = !outside(channel, 0, CHANNELS - 1) || channel == IDLE_CHANNEL;
            if (!known || frame.checkValue() != frame.rightCheck()) {
                counts[BAD]++;
                return 0;
            }
            countMaster(frame.bytes[0]);
            if (channel == IDLE_CHANNEL) {
                counts[IDLE_FRAMES]++;
                return 0;
            }
            if (channel == 0 && frame.bytes[2] % TIME_STEP == 0) {
                times.note(frame.boardTime, frame.groundTime);
            }
            return takeData(frame, channel);
        }

        void countMaster(int master) {
            if (counts[GOOD] > 0) {
                counts[MISSING] += (master - lastMaster - 1) & LARGEST_BYTE;
            }
            lastMaster = master;
            counts[GOOD]++;
        }

        int takeData(Frame frame, int channel) {
            ReceiveChannel source = channels[channel];
            if (source.countFrame(frame.bytes[2])) {
                counts[BROKEN]++;
            }
            int packets = 0;
            int first = source.firstPlace(frame);
            for (int i = first; i < frame.length && i < LONGEST_FRAME; i++) {
                source.append(frame.bytes[HEADER_BYTES + i]);
                if (source.isComplete()) {
                    packets += deliver(source, channel);
                    source.partialSize = 0;
                }
            }
            return packets;
        }

        int deliver(ReceiveChannel source, int channel) {
            int application = source.partial[0];
            if (application == IDLE_APPLICATION) {
                counts[IDLE_PACKETS]++;
                return 0;
            }
            if (outside(application, 0, APPLICATIONS - 1)) {
                counts[BROKEN]++;
                return 0;
            }
            int sequence = source.partial[1];
            if (appPackets[application] > 0) {
                appMissing[application] += (sequence - appLast[application] - 1) & LARGEST_BYTE;
            }
            appLast[application] = sequence;
            appPackets[application]++;
            appBytes[application] += source.partial[2];
            delivered.append().fill(source, channel);
            return 1;
        }
    }

    // The receiving side of a channel.
    private static final class ReceiveChannel {
        // A damaged packet can tell any byte as its length.
        static final int MOST_BYTES = PACKET_HEADER + LARGEST_BYTE;

        int frames = 0;
        int missing = 0;
        int lastCount = 0;
        boolean inStep = false;
        int partialSize = 0;
        final int[] partial = new int[MOST_BYTES];

        void copyFrom(ReceiveChannel other) {
            frames = other.frames;
            missing = other.missing;
            lastCount = other.lastCount;
            inStep = other.inStep;
            partialSize = other.partialSize;
            System.arraycopy(other.partial, 0, partial, 0, MOST_BYTES);
        }

        // Answers whether a gap before this frame breaks the partial packet.
        boolean countFrame(int channelCount) {
            int gap = 1;
            if (frames > 0) {
                gap = (channelCount - lastCount - 1) & LARGEST_BYTE;
                missing += gap;
            }
            frames++;
            lastCount = channelCount;
            if (gap == 0) {
                return false;
            }
            boolean broken = partialSize > 0;
            partialSize = 0;
            inStep = false;
            return broken;
        }

        int firstPlace(Frame frame) {
            if (inStep) {
                return 0;
            }
            int pointer = frame.headerPointer();
            inStep = pointer != NO_HEADER;
            return Math.min(pointer, frame.length);
        }

        void append(int value) {
            if (partialSize >= 0 && partialSize < MOST_BYTES) {
                partial[partialSize] = value;
                partialSize++;
            }
        }

        boolean isComplete() {
            return partialSize >= PACKET_HEADER && partialSize >= PACKET_HEADER + partial[2];
        }
    }

    private static final class DeliveredPacket {
        int channel;
        int application;
        int sequence;
        int length;
        final int[] data = new int[LARGEST_BYTE];

        void copyFrom(DeliveredPacket other) {
            channel = other.channel;
            application = other.application;
            sequence = other.sequence;
            length = other.length;
            System.arraycopy(other.data, 0, data, 0, LARGEST_BYTE);
        }

        void fill(ReceiveChannel source, int fromChannel) {
            channel = fromChannel;
            application = source.partial[0];
            sequence = source.partial[1];
            length = Math.min(source.partial[2], LARGEST_BYTE);
            System.arraycopy(source.partial, PACKET_HEADER, data, 0, LARGEST_BYTE);
        }

        int sum() {
            int sum = 0;
            for (int i = 0; i < length && i < LARGEST_BYTE; i++) {
                sum += data[i];
            }
            return sum;
        }
    }

    private static final class DeliveredList {
        int size = 0;
        final DeliveredPacket[] kept = new DeliveredPacket[KEPT_PACKETS];

        DeliveredList() {
            for (int i = 0; i < KEPT_PACKETS; i++) {
                kept[i] = new DeliveredPacket();
            }
        }

        void copyFrom(DeliveredList other) {
            size = other.size;
            for (int i = 0; i < size && i < KEPT_PACKETS; i++) {
                kept[i].copyFrom(other.kept[i]);
            }
        }

        DeliveredPacket append() {
            if (size < KEPT_PACKETS) {
                size++;
                return kept[size - 1];
            }
            DeliveredPacket oldest = kept[0];
            for (int i = 1; i < KEPT_PACKETS; i++) {
                kept[i - 1] = kept[i];
            }
            kept[KEPT_PACKETS - 1] = oldest;
            return oldest;
        }
    }

    // The clock on board and the time on the ground, the older pair first.
    private static final class TimePairs {
        static final int KEPT = 2;

        int size = 0;
        final long[] boardTimes = new long[KEPT];
        final long[] groundTimes = new long[KEPT];

        void copyFrom(TimePairs other) {
            size = other.size;
            for (int i = 0; i < KEPT; i++) {
                boardTimes[i] = other.boardTimes[i];
                groundTimes[i] = other.groundTimes[i];
            }
        }

        void note(long board, long ground) {
            if (size >= KEPT) {
                boardTimes[0] = boardTimes[1];
                groundTimes[0] = groundTimes[1];
                size = KEPT - 1;
            }
            boardTimes[size] = board;
            groundTimes[size] = ground;
            size++;
        }
    }
}
