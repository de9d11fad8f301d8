import java.math.BigInteger;
import java.util.ArrayList;
import java.util.List;

/**
 * The document's promises once more, written without a look at the program: byte by byte, with
 * lists that are copied whole for undo. ModelTest lets both answer the same calls.
 */
final class SlowLink {
    /** A byte that waits in a queue, and what its packet is. */
    record Pending(int value, boolean first, boolean last, boolean idle, int addedSlot) {
    }

    record OnWire(List<Integer> bytes, boolean lost, long board, long ground) {
    }

    record Delivered(int channel, int application, int sequence, List<Integer> data) {
    }

    record Pair(long board, long ground) {
    }

    static final class Channel {
        int priority = 0;
        int bound = 50;
        int hold = 0;
        int wait = 0;
        int frames = 0;
        int idleBytes = 0;
        int latency = -1;
        List<Pending> queue = new ArrayList<>();
        int good = 0;
        int missing = 0;
        int lastCount = 0;
        boolean inStep = false;
        List<Integer> partial = new ArrayList<>();

        Channel copy() {
            Channel copy = new Channel();
            copy.priority = priority;
            copy.bound = bound;
            copy.hold = hold;
            copy.wait = wait;
            copy.frames = frames;
            copy.idleBytes = idleBytes;
            copy.latency = latency;
            copy.queue = new ArrayList<>(queue);
            copy.good = good;
            copy.missing = missing;
            copy.lastCount = lastCount;
            copy.inStep = inStep;
            copy.partial = new ArrayList<>(partial);
            return copy;
        }
    }

    static final class World {
        int d = 16;
        int drift = 0;
        int delay = 250;
        int slot = 0;
        int idleFrames = 0;
        int lastMaster = 0;
        int[] nextSequence = new int[15];
        int[] lastSequence = new int[15];
        int[][] applications = new int[15][3];
        int[] counts = new int[6];
        List<Channel> channels = new ArrayList<>();
        List<OnWire> wire = new ArrayList<>();
        List<Delivered> delivered = new ArrayList<>();
        List<Pair> pairs = new ArrayList<>();

        World copy() {
            World copy = new World();
            copy.d = d;
            copy.drift = drift;
            copy.delay = delay;
            copy.slot = slot;
            copy.idleFrames = idleFrames;
            copy.lastMaster = lastMaster;
            copy.nextSequence = nextSequence.clone();
            copy.lastSequence = lastSequence.clone();
            for (int i = 0; i < 15; i++) {
                copy.applications[i] = applications[i].clone();
            }
            copy.counts = counts.clone();
            for (Channel channel : channels) {
                copy.channels.add(channel.copy());
            }
            copy.wire.addAll(wire);
            copy.delivered.addAll(delivered);
            copy.pairs.addAll(pairs);
            return copy;
        }
    }

    private World w = new World();
    private final List<World> stack = new ArrayList<>();

    SlowLink() {
        for (int i = 0; i < 4; i++) {
            w.channels.add(new Channel());
        }
    }

    private void save() {
        stack.add(w.copy());
        if (stack.size() > 3) {
            stack.remove(0);
        }
    }

    private static void index(boolean right) {
        if (!right) {
            throw new IndexOutOfBoundsException();
        }
    }

    private static void argument(boolean right) {
        if (!right) {
            throw new IllegalArgumentException();
        }
    }

    private static void state(boolean right) {
        if (!right) {
            throw new IllegalStateException();
        }
    }

    private static boolean in(long value, long low, long high) {
        return low <= value && value <= high;
    }

    private static int modulo(int value) {
        return Math.floorMod(value, 256);
    }

    int setFrameLength(int length) {
        argument(in(length, 8, 40));
        for (Channel channel : w.channels) {
            state(channel.queue.isEmpty());
        }
        save();
        int previous = w.d;
        w.d = length;
        return previous;
    }

    int setChannel(int channel, int priority, int bound, int hold) {
        index(in(channel, 0, 3));
        argument(in(priority, 0, 9) && in(bound, 0, 50) && in(hold, 0, 50));
        save();
        Channel c = w.channels.get(channel);
        int previous = c.priority;
        c.priority = priority;
        c.bound = bound;
        c.hold = hold;
        return previous;
    }

    int setClock(int drift, int delay) {
        argument(in(drift, -1000, 1000) && in(delay, 0, 100000));
        save();
        int previous = w.drift;
        w.drift = drift;
        w.delay = delay;
        return previous;
    }

    int addPacket(int channel, int application, int length, int seed) {
        index(in(channel, 0, 3));
        argument(in(application, 0, 14) && in(length, 1, 50) && in(seed, 0, 255));
        state(queue(channel, 0) < 12);
        save();
        int sequence = w.nextSequence[application];
        w.nextSequence[application] = modulo(sequence + 1);
        List<Integer> bytes = new ArrayList<>(List.of(application, sequence, length));
        for (int i = 0; i < length; i++) {
            bytes.add(modulo(seed + 7 * i));
        }
        put(w.channels.get(channel), bytes, false);
        return sequence;
    }

    private void put(Channel channel, List<Integer> bytes, boolean idle) {
        for (int i = 0; i < bytes.size(); i++) {
            boolean last = i == bytes.size() - 1;
            channel.queue.add(new Pending(bytes.get(i), i == 0, last, idle, w.slot));
        }
    }

    int queue(int channel, int what) {
        index(in(channel, 0, 3));
        argument(in(what, 0, 2));
        Channel c = w.channels.get(channel);
        if (what == 0) {
            return (int) c.queue.stream().filter(b -> b.last() && !b.idle()).count();
        }
        return what == 1 ? c.queue.size() : c.wait;
    }

    int nextChannel() {
        List<Integer> overdue = new ArrayList<>();
        List<Integer> ready = new ArrayList<>();
        for (int i = 0; i < 4; i++) {
            Channel c = w.channels.get(i);
            if (c.queue.isEmpty()) {
                continue;
            }
            if (c.wait >= c.bound) {
                overdue.add(i);
            }
            if (c.queue.size() >= w.d || c.wait >= c.hold) {
                ready.add(i);
            }
        }
        boolean late = !overdue.isEmpty();
        List<Integer> candidates = late ? overdue : ready;
        candidates.sort((a, b) -> {
            Channel x = w.channels.get(a);
            Channel y = w.channels.get(b);
            int order = late ? (y.wait - y.bound) - (x.wait - x.bound) : 0;
            order = order != 0 ? order : y.priority - x.priority;
            order = order != 0 ? order : y.wait - x.wait;
            return order != 0 ? order : a - b;
        });
        return candidates.isEmpty() ? -1 : candidates.get(0);
    }

    int send(int slots) {
        argument(in(slots, 1, 60));
        state(w.wire.size() + slots <= 60);
        save();
        int busy = 0;
        for (int i = 0; i < slots; i++) {
            int channel = nextChannel();
            for (int c = 0; c < 4; c++) {
                Channel other = w.channels.get(c);
                boolean waits = !other.queue.isEmpty() && c != channel;
                other.wait = waits ? other.wait + 1 : 0;
            }
            List<Integer> bytes = channel < 0 ? idleFrame() : frameOf(channel);
            int check = check(bytes);
            bytes.add(check / 256);
            bytes.add(check % 256);
            w.wire.add(new OnWire(bytes, false, clock(), 1000L * w.slot + w.delay));
            w.slot++;
            busy += channel < 0 ? 0 : 1;
        }
        return busy;
    }

    private List<Integer> idleFrame() {
        List<Integer> bytes = new ArrayList<>(List.of(modulo(w.slot), 7, modulo(w.idleFrames), 254));
        for (int i = 0; i < w.d; i++) {
            bytes.add(85);
        }
        w.idleFrames++;
        return bytes;
    }

    private List<Integer> frameOf(int channel) {
        Channel c = w.channels.get(channel);
        int q = c.queue.size();
        if (q < w.d) {
            int size = Math.max(4, w.d - q);
            List<Integer> idle = new ArrayList<>(List.of(15, 0, size - 3));
            while (idle.size() < size) {
                idle.add(170);
            }
            put(c, idle, true);
        }
        int pointer = 255;
        List<Integer> data = new ArrayList<>();
        for (int i = 0; i < w.d; i++) {
            Pending next = c.queue.remove(0);
            data.add(next.value());
            pointer = next.first() && pointer == 255 ? i : pointer;
            c.idleBytes += next.idle() ? 1 : 0;
            if (next.last() && !next.idle()) {
                c.latency = Math.max(c.latency, w.slot - next.addedSlot());
            }
        }
        List<Integer> bytes = new ArrayList<>(
                List.of(modulo(w.slot), channel, modulo(c.frames), pointer));
        bytes.addAll(data);
        c.frames++;
        return bytes;
    }

    private static int check(List<Integer> bytes) {
        int check = 0xFFFF;
        for (int value : bytes) {
            for (int bit = 7; bit >= 0; bit--) {
                int top = (check >> 15 ^ value >> bit) & 1;
                check = check << 1 & 0xFFFF ^ top * 0x1021;
            }
        }
        return check;
    }

    int slot() {
        return w.slot;
    }

    int sent(int channel, int what) {
        index(in(channel, 0, 3) || channel == 7);
        argument(in(what, 0, 2));
        if (channel == 7) {
            return new int[] {w.idleFrames, 0, -1}[what];
        }
        Channel c = w.channels.get(channel);
        return new int[] {c.frames, c.idleBytes, c.latency}[what];
    }

    int wire() {
        return w.wire.size();
    }

    int frameByte(int frame, int index) {
        index(in(frame, 0, w.wire.size() - 1));
        List<Integer> bytes = w.wire.get(frame).bytes();
        index(in(index, 0, bytes.size() - 1));
        return bytes.get(index);
    }

    private void change(int frame, List<Integer> bytes, boolean lost) {
        OnWire old = w.wire.get(frame);
        w.wire.set(frame, new OnWire(bytes, lost, old.board(), old.ground()));
    }

    int corrupt(int frame, int index, int mask) {
        int old = frameByte(frame, index);
        argument(in(mask, 1, 255));
        save();
        List<Integer> bytes = new ArrayList<>(w.wire.get(frame).bytes());
        bytes.set(index, old ^ mask);
        change(frame, bytes, w.wire.get(frame).lost());
        return old ^ mask;
    }

    int repair(int frame) {
        index(in(frame, 0, w.wire.size() - 1));
        save();
        List<Integer> bytes = new ArrayList<>(w.wire.get(frame).bytes());
        bytes.remove(bytes.size() - 1);
        bytes.remove(bytes.size() - 1);
        int check = check(bytes);
        bytes.add(check / 256);
        bytes.add(check % 256);
        change(frame, bytes, w.wire.get(frame).lost());
        return check;
    }

    int lose(int frame) {
        index(in(frame, 0, w.wire.size() - 1));
        save();
        change(frame, w.wire.get(frame).bytes(), true);
        return (int) w.wire.stream().filter(OnWire::lost).count();
    }

    int receive(int frames) {
        argument(in(frames, 1, 60));
        state(w.wire.size() >= frames);
        save();
        int before = 0;
        int after = 0;
        for (int[] application : w.applications) {
            before += application[0];
        }
        for (int i = 0; i < frames; i++) {
            take(w.wire.remove(0));
        }
        for (int[] application : w.applications) {
            after += application[0];
        }
        return after - before;
    }

    private void take(OnWire frame) {
        if (frame.lost()) {
            return;
        }
        List<Integer> bytes = frame.bytes();
        int d = bytes.size() - 6;
        int channel = bytes.get(1);
        int check = bytes.get(d + 4) * 256 + bytes.get(d + 5);
        if (check(bytes.subList(0, d + 4)) != check || !(channel <= 3 || channel == 7)) {
            w.counts[1]++;
            return;
        }
        w.counts[2] += w.counts[0] > 0 ? modulo(bytes.get(0) - w.lastMaster - 1) : 0;
        w.lastMaster = bytes.get(0);
        w.counts[0]++;
        if (channel == 7) {
            w.counts[5]++;
            return;
        }
        if (channel == 0 && bytes.get(2) % 8 == 0) {
            w.pairs.add(new Pair(frame.board(), frame.ground()));
            if (w.pairs.size() > 2) {
                w.pairs.remove(0);
            }
        }
        takeData(channel, bytes.get(2), bytes.get(3), bytes.subList(4, d + 4));
    }

    private void takeData(int channel, int count, int pointer, List<Integer> data) {
        Channel c = w.channels.get(channel);
        int gap = c.good > 0 ? modulo(count - c.lastCount - 1) : 1;
        c.missing += c.good > 0 ? gap : 0;
        c.good++;
        c.lastCount = count;
        if (gap > 0) {
            w.counts[3] += c.partial.isEmpty() ? 0 : 1;
            c.partial.clear();
            c.inStep = false;
        }
        for (int i = 0; i < data.size(); i++) {
            if (!c.inStep && (pointer == 255 || i < pointer)) {
                continue;
            }
            c.partial.add(data.get(i));
            if (c.partial.size() >= 3 && c.partial.size() == 3 + c.partial.get(2)) {
                deliver(channel, new ArrayList<>(c.partial));
                c.partial.clear();
            }
        }
        c.inStep = c.inStep || pointer != 255;
    }

    private void deliver(int channel, List<Integer> packet) {
        int application = packet.get(0);
        int sequence = packet.get(1);
        if (application >= 15) {
            w.counts[application == 15 ? 4 : 3]++;
            return;
        }
        int[] counts = w.applications[application];
        if (counts[0] > 0) {
            counts[1] += modulo(sequence - w.lastSequence[application] - 1);
        }
        w.lastSequence[application] = sequence;
        counts[0]++;
        counts[2] += packet.size() - 3;
        w.delivered.add(
                new Delivered(channel, application, sequence, packet.subList(3, packet.size())));
        if (w.delivered.size() > 30) {
            w.delivered.remove(0);
        }
    }

    int count(int what) {
        argument(in(what, 0, 5));
        return w.counts[what];
    }

    int received(int channel, int what) {
        index(in(channel, 0, 3));
        argument(in(what, 0, 3));
        Channel c = w.channels.get(channel);
        return new int[] {c.good, c.missing, c.partial.size(), c.inStep ? 1 : 0}[what];
    }

    int application(int application, int what) {
        index(in(application, 0, 14));
        argument(in(what, 0, 2));
        return w.applications[application][what];
    }

    int packets() {
        return w.delivered.size();
    }

    int packet(int index, int what) {
        index(in(index, 0, w.delivered.size() - 1));
        argument(in(what, 0, 4));
        Delivered packet = w.delivered.get(index);
        int sum = packet.data().stream().mapToInt(Integer::intValue).sum();
        return new int[] {packet.channel(), packet.application(), packet.sequence(),
            packet.data().size(), sum}[what];
    }

    int packetByte(int index, int position) {
        index(in(index, 0, w.delivered.size() - 1));
        List<Integer> data = w.delivered.get(index).data();
        index(in(position, 0, data.size() - 1));
        return data.get(position);
    }

    long clock() {
        return 1000L * w.slot + floor((long) w.slot * w.drift, 16).longValueExact();
    }

    private static BigInteger floor(long dividend, long divisor) {
        return floor(BigInteger.valueOf(dividend), BigInteger.valueOf(divisor));
    }

    private static BigInteger floor(BigInteger dividend, BigInteger divisor) {
        BigInteger[] parts = dividend.divideAndRemainder(divisor);
        boolean below = parts[1].signum() * divisor.signum() < 0;
        return below ? parts[0].subtract(BigInteger.ONE) : parts[0];
    }

    int timePairs() {
        return w.pairs.size();
    }

    long groundTime(long clock) {
        argument(in(clock, -1000000000L, 1000000000L));
        state(w.pairs.size() == 2 && w.pairs.get(0).board() != w.pairs.get(1).board());
        Pair older = w.pairs.get(0);
        Pair newer = w.pairs.get(1);
        BigInteger product = BigInteger.valueOf(clock - newer.board())
                .multiply(BigInteger.valueOf(newer.ground() - older.ground()));
        BigInteger step = floor(product, BigInteger.valueOf(newer.board() - older.board()));
        return newer.ground() + step.longValueExact();
    }

    int undo() {
        state(!stack.isEmpty());
        w = stack.remove(stack.size() - 1);
        return stack.size();
    }

    long digest() {
        List<Long> values = new ArrayList<>();
        add(values, stack.size(), w.d, w.drift, w.delay, slot(), nextChannel(), clock());
        for (int channel = 0; channel < 4; channel++) {
            Channel c = w.channels.get(channel);
            add(values, c.priority, c.bound, c.hold);
            add(values, queue(channel, 0), queue(channel, 1), queue(channel, 2));
            add(values, sent(channel, 0), sent(channel, 1), sent(channel, 2));
            add(values, received(channel, 0), received(channel, 1));
            add(values, received(channel, 2), received(channel, 3));
        }
        add(values, sent(7, 0), wire());
        for (OnWire frame : w.wire) {
            int end = frame.bytes().size();
            int check = frame.bytes().get(end - 2) * 256 + frame.bytes().get(end - 1);
            add(values, frame.lost() ? 1 : 0, frame.bytes().get(3), check);
        }
        for (int count : w.counts) {
            add(values, count);
        }
        for (int[] application : w.applications) {
            add(values, application[0], application[1], application[2]);
        }
        add(values, packets());
        for (int i = 0; i < packets(); i++) {
            add(values, packet(i, 0), packet(i, 1), packet(i, 2), packet(i, 3), packet(i, 4));
        }
        add(values, timePairs());
        for (Pair pair : w.pairs) {
            add(values, pair.board(), pair.ground());
        }
        long hash = 12171;
        for (long value : values) {
            hash = 31 * hash + value;
        }
        return hash;
    }

    private static void add(List<Long> values, long... more) {
        for (long value : more) {
            values.add(value);
        }
    }
}
