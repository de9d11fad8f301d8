/**
 * For each argument that the document gives a range: the smallest and the largest value and their
 * neighbours inside are taken; the next ones outside and far ones are refused, and change nothing.
 */
final class RangesTest {
    private static final Class<? extends RuntimeException> INDEX = Check.INDEX;
    private static final Class<? extends RuntimeException> ARGUMENT = Check.ARGUMENT;

    interface Call {
        long on(TelemetryLink x, int value);
    }

    private RangesTest() {
    }

    public static void main(String[] args) {
        setFrameLength();
        setChannel();
        setClock();
        addPacket();
        queue();
        send();
        sent();
        frameByte();
        frameByteOfOtherLengths();
        corrupt();
        repairAndLose();
        receive();
        count();
        received();
        application();
        packet();
        packetByte();
        groundTime();
        Check.end();
    }

    private static void range(String what, Twins.Past past, Class<? extends RuntimeException> want,
            int low, int high, Call call) {
        inside(what, past, call, low, Math.min(low + 1, high), Math.max(high - 1, low), high);
        outside(what, past, want, call, low - 1, high + 1, Integer.MIN_VALUE, Integer.MAX_VALUE);
        // What would be right if the argument were cut to a byte or to 16 bits.
        outside(what, past, want, call, high + 65536, low - 65536);
        if (high - low < 250) {
            outside(what, past, want, call, high + 256, low - 256);
        }
    }

    private static void inside(String what, Twins.Past past, Call call, int... values) {
        for (int value : values) {
            String answer = Twins.answerOf(past.make(), x -> call.on(x, value));
            Check.same(what + " " + value + ": " + answer, answer.startsWith("throws") ? 1 : 0, 0);
        }
    }

    private static void outside(String what, Twins.Past past,
            Class<? extends RuntimeException> want, Call call, int... values) {
        for (int value : values) {
            Twins.refused(what + " " + value, past, want, x -> call.on(x, value));
        }
    }

    private static void setFrameLength() {
        range("2 length", TelemetryLink::new, ARGUMENT, 8, 40, (x, v) -> x.setFrameLength(v));
        range("2 length", Links::twoTimePairs, ARGUMENT, 8, 40, (x, v) -> x.setFrameLength(v));
    }

    private static void setChannel() {
        Twins.Past past = Links::busy;
        range("3 channel", past, INDEX, 0, 3, (x, v) -> x.setChannel(v, 1, 2, 3));
        outside("3 channel", past, INDEX, (x, v) -> x.setChannel(v, 1, 2, 3), 7);
        range("3 priority", past, ARGUMENT, 0, 9, (x, v) -> x.setChannel(1, v, 2, 3));
        range("3 bound", past, ARGUMENT, 0, 50, (x, v) -> x.setChannel(1, 1, v, 3));
        range("3 hold", past, ARGUMENT, 0, 50, (x, v) -> x.setChannel(1, 1, 2, v));
    }

    private static void setClock() {
        Twins.Past past = Links::busy;
        range("4 drift", past, ARGUMENT, -1000, 1000, (x, v) -> x.setClock(v, 5));
        range("4 delay", past, ARGUMENT, 0, 100000, (x, v) -> x.setClock(5, v));
    }

    private static void addPacket() {
        Twins.Past past = Links::busy;
        range("5 channel", past, INDEX, 0, 3, (x, v) -> x.addPacket(v, 1, 2, 3));
        outside("5 channel", past, INDEX, (x, v) -> x.addPacket(v, 1, 2, 3), 7);
        range("5 application", past, ARGUMENT, 0, 14, (x, v) -> x.addPacket(1, v, 2, 3));
        range("5 length", past, ARGUMENT, 1, 50, (x, v) -> x.addPacket(1, 1, v, 3));
        range("5 seed", past, ARGUMENT, 0, 255, (x, v) -> x.addPacket(1, 1, 2, v));
    }

    private static void queue() {
        Twins.Past past = Links::busy;
        range("6 channel", past, INDEX, 0, 3, (x, v) -> x.queue(v, 1));
        outside("6 channel", past, INDEX, (x, v) -> x.queue(v, 1), 7);
        for (int c = 0; c < 4; c++) {
            int channel = c;
            range("6 what", past, ARGUMENT, 0, 2, (x, v) -> x.queue(channel, v));
        }
    }

    private static void send() {
        range("8 slots", TelemetryLink::new, ARGUMENT, 1, 60, (x, v) -> x.send(v));
        range("8 slots", Links::twoTimePairs, ARGUMENT, 1, 60, (x, v) -> x.send(v));
    }

    private static void sent() {
        Twins.Past past = Links::busy;
        range("10 channel", past, INDEX, 0, 3, (x, v) -> x.sent(v, 1));
        range("10 idle frames", past, INDEX, 7, 7, (x, v) -> x.sent(v, 0));
        outside("10 channel", past, INDEX, (x, v) -> x.sent(v, 1), 5, 6, 8);
        range("10 what", past, ARGUMENT, 0, 2, (x, v) -> x.sent(0, v));
        range("10 what of idle frames", past, ARGUMENT, 0, 2, (x, v) -> x.sent(7, v));
    }

    private static void frameByte() {
        Twins.Past past = Links::busy;
        range("12 frame", past, INDEX, 0, 5, (x, v) -> x.frameByte(v, 1));
        for (int f = 0; f < 6; f++) {
            int frame = f;
            range("12 index", past, INDEX, 0, 13, (x, v) -> x.frameByte(frame, v));
        }
        range("12 frame of 60", Links::fullWire, INDEX, 0, 59, (x, v) -> x.frameByte(v, 1));
        outside("12 no frame", TelemetryLink::new, INDEX, (x, v) -> x.frameByte(v, 0), 0, 1, -1);
    }

    /** "0 to D + 5, with the D of this frame" */
    private static void frameByteOfOtherLengths() {
        Twins.Past past = () -> {
            TelemetryLink x = Links.ofLength(40);
            x.send(1);
            x.setFrameLength(8);
            x.send(1);
            x.setFrameLength(16);
            x.send(1);
            x.setFrameLength(9);
            return x;
        };
        range("12 index, D of 40", past, INDEX, 0, 45, (x, v) -> x.frameByte(0, v));
        range("12 index, D of 8", past, INDEX, 0, 13, (x, v) -> x.frameByte(1, v));
        range("12 index, D of 16", past, INDEX, 0, 21, (x, v) -> x.frameByte(2, v));
        range("13 index, D of 40", past, INDEX, 0, 45, (x, v) -> x.corrupt(0, v, 1));
        range("13 index, D of 8", past, INDEX, 0, 13, (x, v) -> x.corrupt(1, v, 1));
        range("13 index, D of 16", past, INDEX, 0, 21, (x, v) -> x.corrupt(2, v, 1));
    }

    private static void corrupt() {
        Twins.Past past = Links::busy;
        range("13 frame", past, INDEX, 0, 5, (x, v) -> x.corrupt(v, 1, 2));
        range("13 frame of 60", Links::fullWire, INDEX, 0, 59, (x, v) -> x.corrupt(v, 1, 2));
        for (int f = 0; f < 6; f++) {
            int frame = f;
            range("13 index", past, INDEX, 0, 13, (x, v) -> x.corrupt(frame, v, 2));
        }
        range("13 mask", past, ARGUMENT, 1, 255, (x, v) -> x.corrupt(5, 1, v));
        range("13 mask, lost frame", past, ARGUMENT, 1, 255, (x, v) -> x.corrupt(1, 13, v));
        outside("13 no frame", TelemetryLink::new, INDEX, (x, v) -> x.corrupt(v, 0, 1), 0, 1, -1);
    }

    private static void repairAndLose() {
        Twins.Past past = Links::busy;
        range("14 frame", past, INDEX, 0, 5, (x, v) -> x.repair(v));
        range("15 frame", past, INDEX, 0, 5, (x, v) -> x.lose(v));
        range("14 frame of 60", Links::fullWire, INDEX, 0, 59, (x, v) -> x.repair(v));
        range("15 frame of 60", Links::fullWire, INDEX, 0, 59, (x, v) -> x.lose(v));
        outside("14 no frame", TelemetryLink::new, INDEX, (x, v) -> x.repair(v), 0, 1, -1);
        outside("15 no frame", TelemetryLink::new, INDEX, (x, v) -> x.lose(v), 0, 1, -1);
    }

    private static void receive() {
        range("16 frames", Links::fullWire, ARGUMENT, 1, 60, (x, v) -> x.receive(v));
    }

    private static void count() {
        range("17 what", Links::busy, ARGUMENT, 0, 5, (x, v) -> x.count(v));
    }

    private static void received() {
        Twins.Past past = Links::busy;
        range("18 channel", past, INDEX, 0, 3, (x, v) -> x.received(v, 1));
        outside("18 channel", past, INDEX, (x, v) -> x.received(v, 1), 7);
        for (int c = 0; c < 4; c++) {
            int channel = c;
            range("18 what", past, ARGUMENT, 0, 3, (x, v) -> x.received(channel, v));
        }
    }

    private static void application() {
        Twins.Past past = Links::busy;
        range("19 application", past, INDEX, 0, 14, (x, v) -> x.application(v, 1));
        range("19 what", past, ARGUMENT, 0, 2, (x, v) -> x.application(0, v));
        range("19 what of the last", past, ARGUMENT, 0, 2, (x, v) -> x.application(14, v));
    }

    private static void packet() {
        range("21 index", Links::twoTimePairs, INDEX, 0, 8, (x, v) -> x.packet(v, 1));
        range("21 one packet", Links::busy, INDEX, 0, 0, (x, v) -> x.packet(v, 1));
        range("21 what", Links::twoTimePairs, ARGUMENT, 0, 4, (x, v) -> x.packet(0, v));
        range("21 what of the last", Links::twoTimePairs, ARGUMENT, 0, 4, (x, v) -> x.packet(8, v));
        outside("21 no packet", TelemetryLink::new, INDEX, (x, v) -> x.packet(v, 0), 0, 1, -1);
    }

    private static void packetByte() {
        range("22 index", Links::twoTimePairs, INDEX, 0, 8, (x, v) -> x.packetByte(v, 1));
        range("22 position", Links::twoTimePairs, INDEX, 0, 4, (x, v) -> x.packetByte(8, v));
        range("22 position", Links::busy, INDEX, 0, 19, (x, v) -> x.packetByte(0, v));
        outside("22 no packet", TelemetryLink::new, INDEX, (x, v) -> x.packetByte(v, 0), 0, 1, -1);
    }

    private static void groundTime() {
        long[] inside = {-1000000000L, -999999999L, 0, 999999999L, 1000000000L};
        long[] outside = {-1000000001L, 1000000001L, Integer.MIN_VALUE, Integer.MAX_VALUE,
            Long.MIN_VALUE, Long.MAX_VALUE, 1L << 32, -1L << 32, (1L << 32) + 5};
        for (long clock : inside) {
            // The clock gains 1 in 1000: 16 sixteenths a slot.
            long due = 8100 + Math.floorDiv((clock - 8008) * 8000, 8008L);
            Check.same("25 clock " + clock, Links.twoTimePairs().groundTime(clock), due);
        }
        for (long clock : outside) {
            Twins.refused("25 clock " + clock, Links::twoTimePairs, ARGUMENT,
                    x -> x.groundTime(clock));
        }
    }
}
