/** Promises 5 to 10: addPacket, queue, nextChannel, send, slot, sent. */
final class SendingTest {
    private SendingTest() {
    }

    public static void main(String[] args) {
        packetBytes();
        sequenceCounts();
        sequenceCountsWrap();
        fullQueue();
        addPacketRefusals();
        queueValues();
        queueRefusals();
        overdueChannels();
        readyChannels();
        waits();
        framesOfAChannel();
        shortestIdlePacket();
        headerPointers();
        idleFrames();
        frameCounts();
        sendRefusals();
        slots();
        sentValues();
        sentRefusals();
        Check.end();
    }

    private static void packetBytes() {
        TelemetryLink x = new TelemetryLink();
        x.setFrameLength(40);
        Check.same("5 first", Check.undoable(x, "5", () -> x.addPacket(2, 14, 50, 255)), 0);
        Check.same("5 bytes", x.queue(2, 1), 53);
        x.send(2);
        Check.same("5 application", x.frameByte(0, 4), 14);
        Check.same("5 sequence count", x.frameByte(0, 5), 0);
        Check.same("5 length", x.frameByte(0, 6), 50);
        for (int i = 0; i < 50; i++) {
            int place = i + 3;
            int got = place < 40 ? x.frameByte(0, 4 + place) : x.frameByte(1, 4 + place - 40);
            Check.same("5 data byte " + i, got, (255 + 7 * i) % 256);
        }
        Check.same("5 idle application", x.frameByte(1, 17), 15);
        Check.same("5 idle sequence count", x.frameByte(1, 18), 0);
        Check.same("5 idle length", x.frameByte(1, 19), 24);
        Check.same("5 first idle byte", x.frameByte(1, 20), 170);
        Check.same("5 last idle byte", x.frameByte(1, 43), 170);
        Check.same("5 shortest", x.addPacket(0, 0, 1, 0), 0);
        Check.same("5 bytes of the shortest", x.queue(0, 1), 4);
    }

    private static void sequenceCounts() {
        TelemetryLink x = new TelemetryLink();
        Check.same("5 channel 0", x.addPacket(0, 6, 1, 0), 0);
        Check.same("5 channel 3", x.addPacket(3, 6, 1, 0), 1);
        Check.same("5 other application", x.addPacket(3, 7, 1, 0), 0);
        Check.same("5 channel 1", x.addPacket(1, 6, 1, 0), 2);
        x.send(3);
        Check.same("5 after sending", x.addPacket(0, 6, 1, 0), 3);
        x.undo();
        Check.same("5 after undo", x.addPacket(0, 6, 1, 0), 3);
    }

    private static void sequenceCountsWrap() {
        TelemetryLink x = new TelemetryLink();
        x.setFrameLength(40);
        for (int i = 0; i < 258; i++) {
            Check.same("5 packet " + i, x.addPacket(2, 9, 1, 0), i % 256);
            if (i % 10 == 9) {
                x.send(1);
                x.receive(1);
            }
        }
        x.send(1);
        x.receive(1);
        Check.same("19 no gap at the wrap", x.application(9, 1), 0);
        Check.same("19 all packets", x.application(9, 0), 258);
    }

    private static void fullQueue() {
        TelemetryLink x = new TelemetryLink();
        x.setFrameLength(8);
        x.addPacket(1, 0, 3, 0);
        x.send(1);
        Check.same("5 rest of an idle packet", x.queue(1, 1), 2);
        Check.same("5 idle packets do not count", x.queue(1, 0), 0);
        for (int i = 0; i < 12; i++) {
            Check.same("5 packet " + i, x.addPacket(1, 1, 50, i), i);
        }
        Check.same("5 twelve packets", x.queue(1, 0), 12);
        Check.refuses(x, Check.STATE, "5 thirteenth packet", () -> x.addPacket(1, 1, 1, 0));
        Check.refuses(x, Check.ARGUMENT, "5 full, and length", () -> x.addPacket(1, 1, 51, 0));
        Check.same("5 other channel", x.addPacket(0, 1, 1, 0), 12);
        x.send(1);
        x.send(6);
        Check.same("5 bytes left", x.queue(1, 1) + x.queue(0, 1), 2 + 12 * 53 + 4 + 4 - 56);
        Check.refuses(x, Check.STATE, "5 partly sent packet", () -> x.addPacket(1, 1, 1, 0));
        x.send(1);
        Check.same("5 one sent completely", x.queue(1, 0), 11);
        Check.same("5 room again", x.addPacket(1, 1, 1, 0), 13);
        Check.same("5 full again", x.queue(1, 0), 12);
        x.send(50);
        Check.same("5 partly sent again", x.queue(1, 0), 5);
        x.receive(59);
        x.send(60);
        x.receive(60);
        Check.same("5 nothing pending", x.queue(1, 1), 0);
        Check.same("5 all delivered", x.application(0, 0) + x.application(1, 0), 15);
        Check.same("5 none broken", x.count(3), 0);
    }

    private static void addPacketRefusals() {
        TelemetryLink x = new TelemetryLink();
        int[] channels = {-1, 4, 7, Integer.MIN_VALUE, Integer.MAX_VALUE};
        for (int channel : channels) {
            Check.refuses(x, Check.INDEX, "5 channel", () -> x.addPacket(channel, 0, 1, 0));
            Check.refuses(x, Check.INDEX, "5 channel and all", () -> x.addPacket(channel, 15, 0, -1));
        }
        int[] applications = {-1, 15, 16, Integer.MIN_VALUE, Integer.MAX_VALUE};
        for (int application : applications) {
            Check.refuses(x, Check.ARGUMENT, "5 application", () -> x.addPacket(0, application, 1, 0));
        }
        int[] lengths = {0, -1, 51, Integer.MIN_VALUE, Integer.MAX_VALUE};
        for (int length : lengths) {
            Check.refuses(x, Check.ARGUMENT, "5 length", () -> x.addPacket(0, 0, length, 0));
        }
        int[] seeds = {-1, 256, Integer.MIN_VALUE, Integer.MAX_VALUE};
        for (int seed : seeds) {
            Check.refuses(x, Check.ARGUMENT, "5 seed", () -> x.addPacket(0, 0, 1, seed));
        }
        Check.same("5 no sequence count was used", x.addPacket(0, 0, 1, 255), 0);
    }

    private static void queueValues() {
        TelemetryLink x = new TelemetryLink();
        x.setChannel(1, 1, 50, 0);
        x.addPacket(0, 0, 10, 0);
        x.addPacket(0, 0, 20, 0);
        x.addPacket(1, 1, 50, 0);
        Check.reads(x, "6 packets", () -> x.queue(0, 0), 2);
        Check.reads(x, "6 bytes", () -> x.queue(0, 1), 36);
        Check.reads(x, "6 wait", () -> x.queue(0, 2), 0);
        x.send(3);
        Check.reads(x, "6 wait of channel 0", () -> x.queue(0, 2), 3);
        Check.reads(x, "6 wait of channel 1", () -> x.queue(1, 2), 0);
        Check.reads(x, "6 bytes of channel 1", () -> x.queue(1, 1), 5);
        Check.reads(x, "6 packets of channel 1", () -> x.queue(1, 0), 1);
        x.send(1);
        Check.reads(x, "6 channel 1 is empty", () -> x.queue(1, 0) + x.queue(1, 1), 0);
        x.send(1);
        Check.reads(x, "6 one of two packets", () -> x.queue(0, 0), 1);
        Check.reads(x, "6 bytes of channel 0", () -> x.queue(0, 1), 20);
        Check.reads(x, "6 wait after a frame", () -> x.queue(0, 2), 0);
    }

    private static void queueRefusals() {
        TelemetryLink x = new TelemetryLink();
        int[] channels = {-1, 4, 7, Integer.MIN_VALUE, Integer.MAX_VALUE};
        int[] whats = {-1, 3, Integer.MIN_VALUE, Integer.MAX_VALUE};
        for (int channel : channels) {
            Check.refuses(x, Check.INDEX, "6 channel", () -> x.queue(channel, 0));
            Check.refuses(x, Check.INDEX, "6 channel and what", () -> x.queue(channel, 3));
        }
        for (int what : whats) {
            Check.refuses(x, Check.ARGUMENT, "6 what", () -> x.queue(0, what));
        }
    }

    /** All channels get a packet that fills many frames. */
    private static TelemetryLink fourBusyChannels() {
        TelemetryLink x = new TelemetryLink();
        for (int channel = 0; channel < 4; channel++) {
            x.addPacket(channel, channel, 50, 0);
            x.addPacket(channel, channel, 50, 0);
        }
        return x;
    }

    private static void overdueChannels() {
        TelemetryLink x = fourBusyChannels();
        x.setChannel(0, 9, 50, 0);
        x.setChannel(1, 0, 3, 0);
        x.setChannel(2, 0, 2, 0);
        x.send(2);
        Check.reads(x, "7 overdue goes before priority", x::nextChannel, 2);
        x.setChannel(1, 0, 1, 0);
        Check.same("7 greatest wait minus bound", x.nextChannel(), 1);
        x.setChannel(1, 0, 2, 0);
        Check.same("7 tie: lower number", x.nextChannel(), 1);
        x.setChannel(2, 1, 2, 0);
        Check.same("7 tie: priority", x.nextChannel(), 2);
        x.send(1);
        x.setChannel(1, 0, 1, 0);
        x.setChannel(2, 9, 0, 0);
        x.setChannel(3, 0, 2, 0);
        Check.same("7 wait minus bound, not priority", x.nextChannel(), 1);
        // The waits are 3, 3, 0 and 3: bounds of 2 and 0 do not tie, bounds of 3 and 0 do.
        x.setChannel(1, 4, 3, 0);
        x.setChannel(2, 4, 0, 0);
        x.setChannel(3, 0, 50, 0);
        Check.same("7 tie: greater wait", x.nextChannel(), 1);
        x.setChannel(2, 5, 0, 0);
        Check.same("7 tie: priority before wait", x.nextChannel(), 2);
        TelemetryLink low = fourBusyChannels();
        low.setChannel(3, 0, 0, 0);
        low.send(1);
        Check.same("7 bound 0 at wait 0", low.frameByte(0, 1), 3);
        low.setChannel(3, 0, 0, 50);
        low.send(6);
        Check.same("7 overdue with few bytes", low.frameByte(6, 1), 3);
        low.send(1);
        Check.same("7 no bytes, not overdue", low.frameByte(7, 1), 0);
        TelemetryLink one = new TelemetryLink();
        one.setFrameLength(8);
        one.setChannel(0, 0, 2, 50);
        one.addPacket(0, 0, 2, 0);
        one.send(3);
        Check.same("7 one byte of an idle packet", one.queue(0, 1), 1);
        one.send(1);
        Check.same("7 not yet", one.nextChannel(), TelemetryLink.NONE);
        one.send(1);
        Check.same("7 one byte is overdue", one.nextChannel(), 0);
        TelemetryLink wide = fourBusyChannels();
        wide.setChannel(0, 0, 50, 0);
        wide.setChannel(3, 9, 50, 0);
        wide.setChannel(2, 8, 50, 0);
        wide.send(7);
        Check.same("7 wait is 7", wide.queue(0, 2), 7);
        wide.setChannel(0, 0, 7, 0);
        Check.same("7 wait equal to bound", wide.nextChannel(), 0);
        wide.setChannel(0, 0, 8, 0);
        Check.same("7 wait below bound", wide.nextChannel(), 2);
    }

    private static void readyChannels() {
        TelemetryLink x = fourBusyChannels();
        Check.reads(x, "7 tie: lower number", x::nextChannel, 0);
        x.setChannel(2, 1, 50, 0);
        Check.reads(x, "7 greater priority", x::nextChannel, 2);
        x.send(1);
        x.setChannel(2, 0, 50, 0);
        Check.reads(x, "7 tie: lower number of equal waits", x::nextChannel, 0);
        x.send(1);
        Check.reads(x, "7 tie: greater wait", x::nextChannel, 1);
        x.send(1);
        Check.reads(x, "7 greatest wait of all", x::nextChannel, 3);

        TelemetryLink few = new TelemetryLink();
        few.setChannel(0, 0, 50, 3);
        few.setChannel(1, 9, 50, 50);
        few.addPacket(0, 0, 12, 0);
        few.addPacket(1, 0, 1, 0);
        Check.reads(few, "7 few bytes are held", few::nextChannel, TelemetryLink.NONE);
        Check.same("7 idle frames while held", few.send(2), 0);
        Check.reads(few, "7 wait below the hold time", few::nextChannel, TelemetryLink.NONE);
        few.send(1);
        Check.reads(few, "7 wait is the hold time", few::nextChannel, 0);
        few.undo();
        few.addPacket(0, 0, 1, 0);
        Check.reads(few, "7 more than D bytes", few::nextChannel, 0);
        few.undo();
        TelemetryLink full = new TelemetryLink();
        full.setChannel(2, 0, 50, 50);
        full.addPacket(2, 0, 13, 0);
        Check.reads(full, "7 just D bytes", full::nextChannel, 2);
        full.undo();
        full.addPacket(2, 0, 12, 0);
        Check.reads(full, "7 one byte less than D", full::nextChannel, TelemetryLink.NONE);
        Check.same("7 the bound sends it", full.send(51), 1);
        Check.same("7 at slot 50", full.frameByte(50, 1), 2);
    }

    private static void waits() {
        TelemetryLink x = new TelemetryLink();
        x.setChannel(0, 0, 50, 50);
        x.setChannel(1, 0, 50, 50);
        x.send(5);
        Check.same("6 no wait without bytes", x.queue(0, 2), 0);
        x.addPacket(0, 0, 1, 0);
        Check.same("6 no wait by adding", x.queue(0, 2), 0);
        x.send(4);
        Check.same("6 wait of 4", x.queue(0, 2), 4);
        Check.same("6 no wait of another", x.queue(1, 2), 0);
        x.addPacket(0, 0, 9, 0);
        Check.same("6 adding keeps the wait", x.queue(0, 2), 4);
        x.setChannel(0, 0, 50, 4);
        x.send(1);
        Check.same("6 a frame ends the wait", x.queue(0, 2), 0);
        x.send(3);
        Check.same("6 no bytes, no wait", x.queue(0, 2), 0);
    }

    private static void framesOfAChannel() {
        TelemetryLink x = new TelemetryLink();
        x.addPacket(3, 5, 10, 1);
        x.addPacket(3, 6, 10, 2);
        Check.same("8 frames", Check.undoable(x, "8", () -> x.send(2)), 2);
        int[] first = {0, 3, 0, 0, 5, 0, 10, 1, 8, 15, 22, 29, 36, 43, 50, 57, 64, 6, 0, 10};
        int[] second = {1, 3, 1, 10, 2, 9, 16, 23, 30, 37, 44, 51, 58, 65, 15, 0, 3, 170, 170, 170};
        for (int i = 0; i < 20; i++) {
            Check.same("8 first frame, byte " + i, x.frameByte(0, i), first[i]);
            Check.same("8 second frame, byte " + i, x.frameByte(1, i), second[i]);
        }
        int check = checkOf(first);
        Check.same("8 check value, higher byte", x.frameByte(0, 20), check / 256);
        Check.same("8 check value, lower byte", x.frameByte(0, 21), check % 256);
        Check.same("8 known check value", checkOf(new int[] {49, 50, 51, 52, 53, 54, 55, 56, 57}), 0x29B1);
        Check.same("8 nothing pending", x.queue(3, 1), 0);
        Check.same("8 nothing to send", x.send(1), 0);
        TelemetryLink y = new TelemetryLink();
        for (int i = 0; i < 6; i++) {
            y.addPacket(0, 2, 3, 0);
            y.send(1);
            Check.same("8 sequence count of packet " + i, y.frameByte(i, 5), i);
            Check.same("8 idle application " + i, y.frameByte(i, 10), 15);
            Check.same("8 idle sequence count " + i, y.frameByte(i, 11), 0);
            Check.same("8 idle data " + i, y.frameByte(i, 13), 170);
        }
    }

    /** The document's check value, bit by bit from the highest one on. */
    private static int checkOf(int[] bytes) {
        int check = 0xFFFF;
        for (int value : bytes) {
            for (int bit = 7; bit >= 0; bit--) {
                int top = (check >> 15 ^ value >> bit) & 1;
                check = check << 1 & 0xFFFF ^ top * 0x1021;
            }
        }
        return check;
    }

    private static void shortestIdlePacket() {
        for (int free = 0; free <= 5; free++) {
            TelemetryLink x = new TelemetryLink();
            x.addPacket(0, 0, 13 - free, 0);
            x.send(1);
            int size = free == 0 ? 0 : Math.max(4, free);
            String what = "8 " + free + " free bytes: ";
            Check.same(what + "pending", x.queue(0, 1), size - free);
            Check.same(what + "idle bytes", x.sent(0, 1), free);
            if (free > 2) {
                Check.same(what + "length", x.frameByte(0, 20 - free + 2), size - 3);
            }
            Check.same(what + "rest in the next frame", x.send(1), size > free ? 1 : 0);
            if (size > free) {
                Check.same(what + "pointer", x.frameByte(1, 3), size - free);
                Check.same(what + "all idle", x.sent(0, 1), free + 16);
            }
            x.receive(2);
            Check.same(what + "idle packets", x.count(4), (free > 0 ? 1 : 0) + (size > free ? 1 : 0));
            Check.same(what + "packet", x.packets(), 1);
        }
    }

    private static void headerPointers() {
        TelemetryLink x = new TelemetryLink();
        x.setFrameLength(8);
        x.addPacket(0, 0, 21, 0);
        x.addPacket(0, 0, 5, 0);
        x.addPacket(0, 0, 6, 0);
        x.addPacket(0, 0, 20, 0);
        x.send(6);
        // Packets begin at bytes 0, 24, 32 and 41.
        int[] due = {0, 255, 255, 0, 0, 1};
        for (int i = 0; i < 6; i++) {
            Check.same("8 pointer of frame " + i, x.frameByte(i, 3), due[i]);
        }
        TelemetryLink late = new TelemetryLink();
        late.setFrameLength(8);
        late.addPacket(0, 0, 12, 0);
        late.addPacket(0, 0, 1, 0);
        late.send(2);
        Check.same("8 pointer to the last byte", late.frameByte(1, 3), 7);
    }

    private static void idleFrames() {
        TelemetryLink x = new TelemetryLink();
        x.setFrameLength(9);
        Check.same("8 idle", Check.undoable(x, "8 idle", () -> x.send(2)), 0);
        int[] due = {1, 7, 1, 254, 85, 85, 85, 85, 85, 85, 85, 85, 85};
        for (int i = 0; i < 13; i++) {
            Check.same("8 idle byte " + i, x.frameByte(1, i), due[i]);
        }
        int check = checkOf(due);
        Check.same("8 idle check value", x.frameByte(1, 13) * 256 + x.frameByte(1, 14), check);
        x.addPacket(0, 0, 1, 0);
        Check.same("8 one of three", x.send(3), 1);
        Check.same("8 channel's own count", x.frameByte(2, 2), 0);
        Check.same("8 count of idle frames", x.frameByte(3, 2), 2);
        Check.same("8 master count", x.frameByte(3, 0), 3);
    }

    private static void frameCounts() {
        TelemetryLink x = new TelemetryLink();
        x.send(4);
        x.receive(4);
        for (int i = 4; i < 304; i += 60) {
            x.send(60);
            Check.same("8 master count " + i, x.frameByte(0, 0), i % 256);
            Check.same("8 idle count " + i, x.frameByte(0, 2), i % 256);
            Check.same("8 last master count " + i, x.frameByte(59, 0), (i + 59) % 256);
            x.receive(60);
        }
        x.addPacket(2, 0, 20, 0);
        x.send(2);
        Check.same("8 master count goes on", x.frameByte(1, 0), 305 % 256);
        Check.same("8 channel count", x.frameByte(1, 2), 1);
        Check.same("17 none missing at the wrap", x.count(2), 0);
    }

    private static void sendRefusals() {
        TelemetryLink x = new TelemetryLink();
        int[] wrong = {0, -1, 61, Integer.MIN_VALUE, Integer.MAX_VALUE};
        for (int slots : wrong) {
            Check.refuses(x, Check.ARGUMENT, "8 slots " + slots, () -> x.send(slots));
        }
        Check.same("8 full wire", x.send(60), 0);
        Check.refuses(x, Check.STATE, "8 no room", () -> x.send(1));
        Check.refuses(x, Check.ARGUMENT, "8 no room, and slots", () -> x.send(61));
        x.lose(0);
        Check.refuses(x, Check.STATE, "8 lost frames take room", () -> x.send(1));
        x.receive(2);
        Check.refuses(x, Check.STATE, "8 room for two", () -> x.send(3));
        Check.same("8 two more", x.send(2), 0);
        Check.same("8 wire", x.wire(), 60);
    }

    private static void slots() {
        TelemetryLink x = new TelemetryLink();
        x.send(1);
        Check.reads(x, "9 after one", x::slot, 1);
        x.send(59);
        Check.reads(x, "9 after 60", x::slot, 60);
        x.receive(60);
        Check.reads(x, "9 receiving sends nothing", x::slot, 60);
        x.undo();
        x.undo();
        Check.reads(x, "9 after undo", x::slot, 1);
    }

    private static void sentValues() {
        TelemetryLink x = new TelemetryLink();
        x.setChannel(1, 1, 50, 0);
        x.send(3);
        x.addPacket(0, 0, 20, 0);
        x.addPacket(1, 1, 20, 0);
        Check.reads(x, "10 no latency yet", () -> x.sent(1, 2), -1);
        x.send(1);
        Check.reads(x, "10 not sent completely", () -> x.sent(1, 2), -1);
        x.send(1);
        Check.reads(x, "10 latency", () -> x.sent(1, 2), 1);
        Check.reads(x, "10 idle bytes", () -> x.sent(1, 1), 9);
        Check.reads(x, "10 frames", () -> x.sent(1, 0), 2);
        Check.reads(x, "10 frames of the other", () -> x.sent(0, 0), 0);
        x.send(2);
        Check.reads(x, "10 latency of the other", () -> x.sent(0, 2), 3);
        x.addPacket(0, 0, 1, 0);
        x.send(1);
        Check.reads(x, "10 the greatest latency stays", () -> x.sent(0, 2), 3);
        Check.reads(x, "10 idle bytes add up", () -> x.sent(0, 1), 9 + 12);
        Check.reads(x, "10 idle frames", () -> x.sent(7, 0), 3);
        Check.reads(x, "10 idle frames' bytes", () -> x.sent(7, 1), 0);
        Check.reads(x, "10 idle frames' latency", () -> x.sent(7, 2), -1);
        TelemetryLink quick = new TelemetryLink();
        quick.addPacket(0, 0, 1, 0);
        quick.send(1);
        Check.reads(quick, "10 latency 0", () -> quick.sent(0, 2), 0);
        Check.reads(quick, "10 other channel", () -> quick.sent(1, 2), -1);
    }

    private static void sentRefusals() {
        TelemetryLink x = new TelemetryLink();
        int[] channels = {-1, 4, 5, 6, 8, Integer.MIN_VALUE, Integer.MAX_VALUE};
        int[] whats = {-1, 3, Integer.MIN_VALUE, Integer.MAX_VALUE};
        for (int channel : channels) {
            Check.refuses(x, Check.INDEX, "10 channel", () -> x.sent(channel, 0));
            Check.refuses(x, Check.INDEX, "10 channel and what", () -> x.sent(channel, 3));
        }
        for (int what : whats) {
            Check.refuses(x, Check.ARGUMENT, "10 what", () -> x.sent(0, what));
            Check.refuses(x, Check.ARGUMENT, "10 what of 7", () -> x.sent(7, what));
        }
    }
}
