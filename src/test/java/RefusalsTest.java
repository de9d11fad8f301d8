/**
 * "A call that throws an exception changes nothing. If several exceptions of a method apply, the
 * one that is listed first is thrown. NONE is returned only if no exception applies."
 */
final class RefusalsTest {
    private static final Class<? extends RuntimeException> INDEX = Check.INDEX;
    private static final Class<? extends RuntimeException> ARGUMENT = Check.ARGUMENT;
    private static final Class<? extends RuntimeException> STATE = Check.STATE;

    private RefusalsTest() {
    }

    public static void main(String[] args) {
        setFrameLengthWithPendingBytes();
        setFrameLengthWithOneIdleByte();
        setFrameLengthAfterTheLastByte();
        setFrameLengthArgumentFirst();
        setChannelIndexFirst();
        addPacketIndexFirst();
        addPacketToFullQueue();
        addPacketArgumentFirst();
        sendToFullWire();
        sendToLastPlaces();
        sendArgumentFirst();
        corruptIndexFirst();
        receiveFromEmptyWire();
        receiveOneTooMany();
        receiveArgumentFirst();
        groundTimeWithoutPairs();
        groundTimeOfOneClockValue();
        groundTimeArgumentFirst();
        undoOfNothing();
        questionsIndexFirst();
        noneOnlyWithoutException();
        refusedCallsSaveNothing();
        Check.end();
    }

    private static void refused(
            String what, Twins.Past past, Class<? extends RuntimeException> want, Twins.Step call) {
        Twins.refused(what, past, want, call);
    }

    /** "Throws IllegalStateException if some channel has pending bytes" */
    private static void setFrameLengthWithPendingBytes() {
        for (int c = 0; c < 4; c++) {
            int channel = c;
            Twins.Past past = () -> {
                TelemetryLink x = Links.ofLength(20);
                x.addPacket(channel, 0, 1, 0);
                return x;
            };
            refused("2 pending in " + c, past, STATE, x -> x.setFrameLength(8));
            refused("2 pending, the same length", past, STATE, x -> x.setFrameLength(20));
        }
        refused("2 busy", Links::busy, STATE, x -> x.setFrameLength(9));
        refused("2 full queue", Links::fullQueue, STATE, x -> x.setFrameLength(9));
    }

    /** One byte of an idle packet is a pending byte too. */
    private static TelemetryLink oneIdleByte(int channel) {
        TelemetryLink x = Links.ofLength(8);
        x.addPacket(channel, 0, 2, 0);
        x.send(1);
        Check.same("2 one byte", x.queue(channel, 1), 1);
        return x;
    }

    private static void setFrameLengthWithOneIdleByte() {
        for (int c = 0; c < 4; c++) {
            int channel = c;
            refused("2 idle byte in " + c, () -> oneIdleByte(channel), STATE,
                    x -> x.setFrameLength(40));
        }
    }

    private static void setFrameLengthAfterTheLastByte() {
        for (int channel = 0; channel < 4; channel++) {
            TelemetryLink x = oneIdleByte(channel);
            x.send(1);
            Check.same("2 all is sent", x.setFrameLength(40), 8);
        }
        Check.same("2 frames on the wire don't matter", fullWireOfIdleFrames().setFrameLength(9), 16);
    }

    private static TelemetryLink fullWireOfIdleFrames() {
        TelemetryLink x = new TelemetryLink();
        x.send(60);
        return x;
    }

    private static void setFrameLengthArgumentFirst() {
        refused("2 pending and 7", Links::busy, ARGUMENT, x -> x.setFrameLength(7));
        refused("2 pending and 41", Links::busy, ARGUMENT, x -> x.setFrameLength(41));
    }

    private static void setChannelIndexFirst() {
        for (int c : new int[] {-1, 4}) {
            refused("3 channel, priority", Links::busy, INDEX, x -> x.setChannel(c, 10, 50, 0));
            refused("3 channel, bound", Links::busy, INDEX, x -> x.setChannel(c, 0, -1, 0));
            refused("3 channel, hold", Links::busy, INDEX, x -> x.setChannel(c, 0, 50, 51));
        }
    }

    private static void addPacketIndexFirst() {
        for (int c : new int[] {-1, 4}) {
            refused("5 channel, application", Links::busy, INDEX, x -> x.addPacket(c, 15, 1, 0));
            refused("5 channel, length", Links::busy, INDEX, x -> x.addPacket(c, 0, 0, 0));
            refused("5 channel, seed", Links::busy, INDEX, x -> x.addPacket(c, 0, 1, 256));
        }
    }

    /** "Throws IllegalStateException if there are 12 packets that are not idle in the queue" */
    private static void addPacketToFullQueue() {
        refused("5 thirteenth", Links::fullQueue, STATE, x -> x.addPacket(2, 0, 1, 0));
        for (int c = 0; c < 4; c++) {
            int channel = c;
            Twins.Past twelve = () -> {
                TelemetryLink x = new TelemetryLink();
                for (int i = 0; i < 12; i++) {
                    x.addPacket(channel, 14, 50, i);
                }
                return x;
            };
            refused("5 thirteenth in " + c, twelve, STATE, x -> x.addPacket(channel, 0, 50, 255));
            Check.same("5 another channel", twelve.make().addPacket((channel + 1) % 4, 14, 1, 0), 12);
        }
    }

    private static void addPacketArgumentFirst() {
        refused("5 full, application -1", Links::fullQueue, ARGUMENT, x -> x.addPacket(2, -1, 1, 0));
        refused("5 full, application 15", Links::fullQueue, ARGUMENT, x -> x.addPacket(2, 15, 1, 0));
        refused("5 full, length 0", Links::fullQueue, ARGUMENT, x -> x.addPacket(2, 0, 0, 0));
        refused("5 full, length 51", Links::fullQueue, ARGUMENT, x -> x.addPacket(2, 0, 51, 0));
        refused("5 full, seed -1", Links::fullQueue, ARGUMENT, x -> x.addPacket(2, 0, 1, -1));
        refused("5 full, seed 256", Links::fullQueue, ARGUMENT, x -> x.addPacket(2, 0, 1, 256));
    }

    /** "Throws IllegalStateException if there would be more than 60 frames on the wire" */
    private static void sendToFullWire() {
        refused("8 full, 1", Links::fullWire, STATE, x -> x.send(1));
        refused("8 full, 60", Links::fullWire, STATE, x -> x.send(60));
        Twins.Past allLost = () -> {
            TelemetryLink x = fullWireOfIdleFrames();
            for (int frame = 0; frame < 60; frame++) {
                x.lose(frame);
            }
            return x;
        };
        refused("8 full of lost frames", allLost, STATE, x -> x.send(1));
    }

    private static void sendToLastPlaces() {
        for (int n = 1; n <= 59; n++) {
            int onWire = n;
            Twins.Past past = () -> {
                TelemetryLink x = Links.fullWire();
                x.receive(60 - onWire);
                return x;
            };
            refused("8 one too many on " + n, past, STATE, x -> x.send(61 - onWire));
            TelemetryLink x = past.make();
            x.send(60 - onWire);
            Check.same("8 the last place", x.wire(), 60);
        }
    }

    private static void sendArgumentFirst() {
        for (int slots : new int[] {0, -1, 61}) {
            refused("8 full and " + slots, Links::fullWire, ARGUMENT, x -> x.send(slots));
            refused("8 empty and " + slots, TelemetryLink::new, ARGUMENT, x -> x.send(slots));
        }
    }

    private static void corruptIndexFirst() {
        for (int mask : new int[] {0, 256}) {
            refused("13 frame -1 and mask", Links::busy, INDEX, x -> x.corrupt(-1, 0, mask));
            refused("13 frame 6 and mask", Links::busy, INDEX, x -> x.corrupt(6, 0, mask));
            refused("13 byte -1 and mask", Links::busy, INDEX, x -> x.corrupt(0, -1, mask));
            refused("13 byte 14 and mask", Links::busy, INDEX, x -> x.corrupt(5, 14, mask));
        }
    }

    /** "Throws IllegalStateException if there are fewer frames on the wire" */
    private static void receiveFromEmptyWire() {
        for (int frames : new int[] {1, 2, 60}) {
            refused("16 empty", TelemetryLink::new, STATE, x -> x.receive(frames));
            refused("16 empty again", Links::twoTimePairs, STATE, x -> x.receive(frames));
        }
    }

    private static void receiveOneTooMany() {
        for (int n = 1; n <= 59; n++) {
            int onWire = n;
            Twins.Past past = () -> {
                TelemetryLink x = new TelemetryLink();
                x.send(onWire);
                return x;
            };
            refused("16 one too many of " + n, past, STATE, x -> x.receive(onWire + 1));
            TelemetryLink x = past.make();
            x.receive(onWire);
            Check.same("16 just as many", x.count(0), onWire);
        }
    }

    private static void receiveArgumentFirst() {
        for (int frames : new int[] {0, -1, 61}) {
            refused("16 empty, " + frames, TelemetryLink::new, ARGUMENT, x -> x.receive(frames));
            refused("16 busy, " + frames, Links::busy, ARGUMENT, x -> x.receive(frames));
        }
    }

    private static TelemetryLink onePair(int slot) {
        TelemetryLink x = Links.ofLength(8);
        Links.idleFrames(x, slot);
        Links.framesOfChannel(x, 0, 8);
        return x;
    }

    /** "Throws IllegalStateException if there are fewer than 2 time pairs" */
    private static void groundTimeWithoutPairs() {
        refused("25 no pair", TelemetryLink::new, STATE, x -> x.groundTime(0));
        refused("25 a pair of 0", () -> onePair(0), STATE, x -> x.groundTime(0));
        refused("25 a pair of 5000", () -> onePair(5), STATE, x -> x.groundTime(5000));
        refused("25 busy", Links::busy, STATE, x -> x.groundTime(1));
        TelemetryLink x = onePair(5);
        Links.framesOfChannel(x, 0, 1);
        Check.same("25 two pairs", x.groundTime(5000), 5250);
    }

    /** Slots 60 and 68, with 60000 + 3750 and 68000 - 4250. */
    private static TelemetryLink oneClockValue() {
        TelemetryLink x = Links.ofLength(8);
        Links.idleFrames(x, 60);
        x.setClock(1000, 0);
        Links.framesOfChannel(x, 0, 1);
        x.setClock(-1000, 0);
        Links.framesOfChannel(x, 0, 8);
        Check.same("24 two pairs", x.timePairs(), 2);
        return x;
    }

    /** "or both have the same clock value" */
    private static void groundTimeOfOneClockValue() {
        refused("25 that value", RefusalsTest::oneClockValue, STATE, x -> x.groundTime(63750));
        refused("25 another value", RefusalsTest::oneClockValue, STATE, x -> x.groundTime(0));
        // Slots 61 and 69: 61000 + floor(61 * 993 / 16), 69000 - 4214. They differ by 1.
        TelemetryLink x = Links.ofLength(8);
        Links.idleFrames(x, 61);
        x.setClock(993, 0);
        Links.framesOfChannel(x, 0, 1);
        x.setClock(-977, 0);
        Links.framesOfChannel(x, 0, 8);
        Check.same("25 the older one of near values", x.groundTime(64785), 61000);
        Check.same("25 the newer one", x.groundTime(64786), 69000);
        Check.same("25 the next value", x.groundTime(64787), 77000);
    }

    private static void groundTimeArgumentFirst() {
        for (long clock : new long[] {-1000000001L, 1000000001L}) {
            refused("25 no pair", TelemetryLink::new, ARGUMENT, x -> x.groundTime(clock));
            refused("25 one pair", Links::busy, ARGUMENT, x -> x.groundTime(clock));
            refused("25 one value", RefusalsTest::oneClockValue, ARGUMENT, x -> x.groundTime(clock));
        }
    }

    /** "Throws IllegalStateException if the stack is empty" */
    private static void undoOfNothing() {
        refused("26 new", TelemetryLink::new, STATE, TelemetryLink::undo);
        Twins.Past used = () -> {
            TelemetryLink x = Links.busy();
            x.undo();
            x.undo();
            x.undo();
            return x;
        };
        refused("26 used up", used, STATE, TelemetryLink::undo);
    }

    private static void questionsIndexFirst() {
        Twins.Past past = Links::busy;
        refused("6 channel -1 and what", past, INDEX, x -> x.queue(-1, 3));
        refused("6 channel 4 and what", past, INDEX, x -> x.queue(4, -1));
        refused("10 channel 4 and what", past, INDEX, x -> x.sent(4, 3));
        refused("10 channel 8 and what", past, INDEX, x -> x.sent(8, -1));
        refused("18 channel -1 and what", past, INDEX, x -> x.received(-1, 4));
        refused("18 channel 4 and what", past, INDEX, x -> x.received(4, -1));
        refused("19 application -1 and what", past, INDEX, x -> x.application(-1, 3));
        refused("19 application 15 and what", past, INDEX, x -> x.application(15, -1));
        refused("21 packet -1 and what", past, INDEX, x -> x.packet(-1, 5));
        refused("21 packet 1 and what", past, INDEX, x -> x.packet(1, -1));
    }

    private static void noneOnlyWithoutException() {
        Twins.Past past = TelemetryLink::new;
        refused("10 no such channel", past, INDEX, x -> x.sent(4, 2));
        refused("10 no such channel", past, INDEX, x -> x.sent(-1, 2));
        refused("10 no such value", past, ARGUMENT, x -> x.sent(0, 3));
        refused("10 no such value of idle frames", past, ARGUMENT, x -> x.sent(7, 3));
        Check.same("10 none was sent", new TelemetryLink().sent(3, 2), TelemetryLink.NONE);
        Check.same("7 idle frame", new TelemetryLink().nextChannel(), TelemetryLink.NONE);
    }

    /** A refused call leaves as many saved states as there were, at each height of the stack. */
    private static void refusedCallsSaveNothing() {
        for (int n = 0; n <= 3; n++) {
            int saved = n;
            Twins.Past past = () -> {
                TelemetryLink x = new TelemetryLink();
                for (int i = 0; i < saved; i++) {
                    x.setClock(i + 1, i);
                }
                return x;
            };
            refused("26 setFrameLength", past, ARGUMENT, x -> x.setFrameLength(41));
            refused("26 setChannel", past, ARGUMENT, x -> x.setChannel(0, 0, 0, 51));
            refused("26 setClock", past, ARGUMENT, x -> x.setClock(0, 100001));
            refused("26 addPacket", past, ARGUMENT, x -> x.addPacket(0, 0, 51, 0));
            refused("26 send", past, ARGUMENT, x -> x.send(61));
            refused("26 corrupt", past, INDEX, x -> x.corrupt(0, 0, 1));
            refused("26 repair", past, INDEX, x -> x.repair(0));
            refused("26 lose", past, INDEX, x -> x.lose(0));
            refused("26 receive", past, STATE, x -> x.receive(1));
        }
    }
}
