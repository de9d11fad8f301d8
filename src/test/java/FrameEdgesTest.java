import java.util.Arrays;

/** The edges that the section FRAMES names, for the promises 2, 8, 10, 12 and 14. */
final class FrameEdgesTest {
    private static final int[] LENGTHS = {8, 9, 16, 39, 40};

    private FrameEdgesTest() {
    }

    public static void main(String[] args) {
        lengthAtFirst();
        shortestAndLongestFrame();
        masterCountAfter255();
        masterCountOfEachFrame();
        channelCountAfter255();
        channelCountOfIdleFramesAfter255();
        channelCountsAreApart();
        checkValues();
        checkValueOfChosenBytes();
        checkValueAround32768();
        checkValueHigherByteFirst();
        moreThanOneFrame();
        justOneFrame();
        tooFewBytesForAFrame();
        fewestBytes();
        restsOfIdlePackets();
        nothingPendingNoIdlePacket();
        pointerToTheFirstByte();
        pointerToTheLastByte();
        pointerToNone();
        pointerToTheFirstOfSeveral();
        pointerToAnIdlePacket();
        idleFrames();
        Check.end();
    }

    /** "D is from 8 to 40 (16 at first). It consists of D + 6 bytes" */
    private static void lengthAtFirst() {
        TelemetryLink x = new TelemetryLink();
        x.send(1);
        Check.same("last data byte", x.frameByte(0, 19), 85);
        Check.same("check value", x.frameByte(0, 20) * 256 + x.frameByte(0, 21), checkOf(x, 0, 20));
        Twins.throwing("byte 22", Check.INDEX, x, y -> y.frameByte(0, 22));
        Check.same("previous length", x.setFrameLength(40), 16);
    }

    private static void shortestAndLongestFrame() {
        for (int length = 8; length <= 40; length++) {
            int size = length + 6;
            TelemetryLink x = Links.ofLength(length);
            x.addPacket(0, 0, 50, 0);
            x.send(1);
            Check.same("bytes that were sent", x.queue(0, 1), 53 - length);
            Check.same("last data byte", x.frameByte(0, length + 3), (7 * (length - 4)) % 256);
            Check.same("check value", x.frameByte(0, size - 2) * 256 + x.frameByte(0, size - 1),
                    checkOf(x, 0, size - 2));
            Twins.throwing("byte " + size, Check.INDEX, x, y -> y.frameByte(0, size));
            Check.same("good", x.receive(1) + x.count(0), 1);
            Check.same("bytes that were received", x.received(0, 2), length);
        }
    }

    /** "The master count starts with 0 and increases by 1, modulo 256, with each frame" */
    private static void masterCountAfter255() {
        TelemetryLink x = new TelemetryLink();
        x.send(1);
        Check.same("first frame", x.frameByte(0, 0), 0);
        x.receive(1);
        Links.idleFrames(x, 253);
        x.send(4);
        int[] due = {254, 255, 0, 1};
        for (int i = 0; i < 4; i++) {
            Check.same("frame " + (254 + i), x.frameByte(i, 0), due[i]);
        }
        x.receive(4);
        Links.idleFrames(x, 253);
        x.send(2);
        Check.same("frame 511", x.frameByte(0, 0), 255);
        Check.same("frame 512", x.frameByte(1, 0), 0);
        x.receive(2);
        Check.same("none missing", x.count(2), 0);
    }

    private static void masterCountOfEachFrame() {
        TelemetryLink x = Links.ofLength(8);
        for (int i = 0; i < 5; i++) {
            if (i < 4) {
                x.addPacket(i, 0, 5, 0);
            }
            x.send(1);
            Check.same("channel " + i, x.frameByte(i, 1), i < 4 ? i : 7);
            Check.same("master count", x.frameByte(i, 0), i);
            Check.same("channel count", x.frameByte(i, 2), 0);
        }
        x.lose(4);
        x.send(1);
        Check.same("after a lost frame", x.frameByte(5, 0), 5);
        x.receive(6);
        x.send(1);
        Check.same("after receiving", x.frameByte(0, 0), 6);
    }

    /** "each channel, and channel 7 of the idle frames, has such a channel count of its own" */
    private static void channelCountAfter255() {
        for (int channel = 0; channel < 4; channel++) {
            TelemetryLink x = Links.ofLength(8);
            // 32 packets of 8 frames each, and an idle frame before them.
            x.send(1);
            x.receive(1);
            for (int i = 0; i < 32; i++) {
                x.addPacket(channel, 0, 29, 0);
                x.addPacket(channel, 0, 29, 0);
                x.send(8);
                Check.same("first count", x.frameByte(0, 2), 8 * i % 256);
                Check.same("last count", x.frameByte(7, 2), 8 * i + 7);
                x.receive(8);
            }
            x.addPacket(channel, 0, 13, 0);
            x.send(2);
            Check.same("count after 255", x.frameByte(0, 2), 0);
            Check.same("master count", x.frameByte(0, 0), 1);
            Check.same("next count", x.frameByte(1, 2), 1);
            x.receive(2);
            Check.same("none missing", x.received(channel, 1), 0);
            Check.same("frames that were sent", x.sent(channel, 0), 258);
            Check.same("good frames", x.received(channel, 0), 258);
        }
    }

    private static void channelCountOfIdleFramesAfter255() {
        TelemetryLink x = Links.ofLength(8);
        x.addPacket(1, 0, 13, 0);
        x.send(2);
        x.receive(2);
        Links.idleFrames(x, 254);
        x.send(4);
        int[] due = {254, 255, 0, 1};
        for (int i = 0; i < 4; i++) {
            Check.same("idle frame " + (254 + i), x.frameByte(i, 2), due[i]);
            Check.same("master count", x.frameByte(i, 0), i);
        }
        Check.same("idle frames that were sent", x.sent(7, 0), 258);
    }

    private static void channelCountsAreApart() {
        TelemetryLink x = Links.ofLength(8);
        int[] order = {0, 1, 0, 3, 3, 3, 2, 0, 1, 7, 0, 7};
        int[] counts = {0, 0, 1, 0, 1, 2, 0, 2, 1, 0, 3, 1};
        for (int i = 0; i < order.length; i++) {
            if (order[i] != 7) {
                x.addPacket(order[i], 0, 5, 0);
            }
            x.send(1);
            Check.same("channel", x.frameByte(i, 1), order[i]);
            Check.same("its count", x.frameByte(i, 2), counts[i]);
        }
    }

    /** The document's check value, one bit of the bytes after the other. */
    private static int checkOfBytes(int... bytes) {
        int check = 0xFFFF;
        for (int value : bytes) {
            for (int bit = 7; bit >= 0; bit--) {
                int top = (check >> 15 ^ value >> bit) & 1;
                check = check << 1 & 0xFFFF ^ top * 0x1021;
            }
        }
        return check;
    }

    private static int checkOf(TelemetryLink x, int frame, int size) {
        int[] bytes = new int[size];
        for (int i = 0; i < size; i++) {
            bytes[i] = x.frameByte(frame, i);
        }
        return checkOfBytes(bytes);
    }

    /** "c becomes (2 * c) XOR 4129 if c is at least 32768, otherwise 2 * c" */
    private static void checkValues() {
        for (int part = 0; part < 32; part++) {
            TelemetryLink x = Links.ofLength(8);
            Links.idleFrames(x, 8 * part);
            x.send(8);
            for (int i = 0; i < 8; i++) {
                Check.same("check value of idle frame " + (8 * part + i),
                        x.frameByte(i, 12) * 256 + x.frameByte(i, 13), checkOf(x, i, 12));
            }
        }
    }

    private static void checkValueOfChosenBytes() {
        int[][] rows = {
            {0, 0, 0, 0, 0, 0, 0, 0}, {255, 255, 255, 255, 255, 255, 255, 255},
            {128, 0, 0, 0, 0, 0, 0, 0}, {0, 0, 0, 0, 0, 0, 0, 1}, {1, 2, 4, 8, 16, 32, 64, 128},
        };
        for (int[] row : rows) {
            TelemetryLink x = Links.ofLength(8);
            x.send(1);
            Links.setFrame(x, 0, 255, 255, 255, row);
            Links.setByte(x, 0, 0, 255);
            int due = checkOf(x, 0, 12);
            Check.same("repair", x.repair(0), due);
            Check.same("its bytes", x.frameByte(0, 12) * 256 + x.frameByte(0, 13), due);
        }
        // The well-known value for the text 123456789.
        Check.same("123456789", checkOfBytes(49, 50, 51, 52, 53, 54, 55, 56, 57), 0x29B1);
    }

    /** "if c is at least 32768": three data bytes bring c to just this value, before it is doubled. */
    private static void checkValueAround32768() {
        for (int value : new int[] {32767, 32768, 32769, 0, 65535}) {
            TelemetryLink x = Links.ofLength(8);
            x.send(1);
            int first = firstByteBefore(value, 0, 7, 0, 254);
            int check = checkOfBytes(0, 7, 0, 254, first);
            Links.setFrame(x, 0, 7, 0, 254, first, (check ^ value) >> 8);
            Check.same("lower byte before " + value, check & 255, value & 255);
            Check.same("repair", x.repair(0), checkOf(x, 0, 12));
            x.receive(1);
            Check.same("good", x.count(0), 1);
        }
    }

    /** The byte behind these, after which the lower byte of c is that of the value. */
    private static int firstByteBefore(int value, int... before) {
        int[] bytes = Arrays.copyOf(before, before.length + 1);
        while ((checkOfBytes(bytes) & 255) != (value & 255)) {
            bytes[before.length]++;
        }
        return bytes[before.length];
    }

    /** "the check value (two bytes, the higher one first)" */
    private static void checkValueHigherByteFirst() {
        TelemetryLink x = Links.ofLength(8);
        x.send(1);
        x.corrupt(0, 12, 255);
        x.corrupt(0, 13, 255);
        int check = x.repair(0);
        Check.same("higher byte", x.frameByte(0, 12), check / 256);
        Check.same("lower byte", x.frameByte(0, 13), check % 256);
        Check.same("they are not the same", check / 256 == check % 256 ? 1 : 0, 0);
        Check.same("right", check, checkOf(x, 0, 12));
    }

    /** "has in its data field the first D pending bytes of the channel" */
    private static void moreThanOneFrame() {
        for (int length : LENGTHS) {
            TelemetryLink x = Links.ofLength(length);
            x.addPacket(0, 0, length - 2, 0);
            x.send(1);
            Check.same("one byte is left", x.queue(0, 1), 1);
            Check.same("no idle byte", x.sent(0, 1), 0);
            Check.same("the packet isn't sent", x.queue(0, 0), 1);
        }
    }

    private static void justOneFrame() {
        for (int length : LENGTHS) {
            TelemetryLink x = Links.ofLength(length);
            x.addPacket(0, 0, length - 3, 0);
            x.send(1);
            Check.same("no byte is left", x.queue(0, 1), 0);
            Check.same("no idle byte", x.sent(0, 1), 0);
            x.receive(1);
            Check.same("no idle packet", x.count(4), 0);
            Check.same("one packet", x.packets(), 1);
        }
    }

    /** "an idle packet is added to the queue before, whose length (all bytes) is the greater one
     * of 4 and D - q; its bytes that find no room stay pending" */
    private static void tooFewBytesForAFrame() {
        for (int length : LENGTHS) {
            for (int q = 4; q < length; q++) {
                TelemetryLink x = Links.ofLength(length);
                x.addPacket(1, 3, q - 3, 0);
                x.send(1);
                sameIdlePacket(x, 0, length, q);
                Check.same("idle bytes", x.sent(1, 1), length - q);
                Check.same("no packet is left", x.queue(1, 0), 0);
                int left = Math.max(4, length - q) - (length - q);
                Check.same("bytes left of " + q, x.queue(1, 1), left);
                Check.same("more frames", x.send(1), left > 0 ? 1 : 0);
                x.receive(2);
                Check.same("idle packets", x.count(4), left > 0 ? 2 : 1);
                Check.same("packet", x.application(3, 2), q - 3);
            }
        }
    }

    /** The bytes of an idle packet that stands behind q bytes in the data field. */
    private static void sameIdlePacket(TelemetryLink x, int frame, int length, int q) {
        int size = Math.max(4, length - q);
        for (int i = 0; i < length - q; i++) {
            int due = i == 0 ? 15 : i == 1 ? 0 : i == 2 ? size - 3 : 170;
            Check.same("idle byte " + i, x.frameByte(frame, 4 + q + i), due);
        }
    }

    /** q of 1, 2 and 3 are rests of idle packets. */
    private static void fewestBytes() {
        for (int length : LENGTHS) {
            for (int q = 1; q <= 3; q++) {
                TelemetryLink x = Links.ofLength(length);
                x.addPacket(2, 0, length - 4 + q - 3, 0);
                x.send(1);
                Check.same("rest", x.queue(2, 1), q);
                Check.same("idle packets are not counted", x.queue(2, 0), 0);
                Check.same("one more frame", x.send(1), 1);
                sameIdlePacket(x, 1, length, q);
                Check.same("its pointer", x.frameByte(1, 3), q);
                Check.same("nothing is left", x.queue(2, 1), 0);
                Check.same("idle bytes", x.sent(2, 1), 4 - q + length);
                Check.same("an idle frame", x.send(1), 0);
                x.receive(3);
                Check.same("two idle packets", x.count(4), 2);
            }
        }
    }

    private static void restsOfIdlePackets() {
        int[][] due = {{15, 0, 1, 170}, {0, 1, 170}, {1, 170}, {170}};
        for (int q = 1; q <= 3; q++) {
            TelemetryLink x = Links.ofLength(8);
            x.addPacket(0, 0, 1 + q, 0);
            x.send(1);
            // A packet that comes later stands behind the rest of the idle packet.
            x.addPacket(0, 9, 5 - q, 0);
            x.send(1);
            for (int i = 0; i < q; i++) {
                Check.same("rest, byte " + i, x.frameByte(1, 4 + i), due[4 - q][i]);
            }
            Check.same("pointer", x.frameByte(1, 3), q);
            Check.same("the packet behind it", x.frameByte(1, 4 + q), 9);
            Check.same("nothing is left", x.queue(0, 1), 0);
            x.receive(2);
            Check.same("one idle packet", x.count(4), 1);
            Check.same("two packets", x.packets(), 2);
        }
    }

    private static void nothingPendingNoIdlePacket() {
        TelemetryLink x = new TelemetryLink();
        Check.same("an idle frame", x.send(1), 0);
        for (int channel = 0; channel < 4; channel++) {
            Check.same("no idle packet is added", x.queue(channel, 1), 0);
            Check.same("no idle byte", x.sent(channel, 1), 0);
        }
    }

    /** "The first header pointer is the position, from 0, of the first byte in the data field that
     * is the first byte of a packet" */
    private static void pointerToTheFirstByte() {
        TelemetryLink x = Links.ofLength(8);
        x.addPacket(0, 0, 5, 0);
        x.addPacket(0, 0, 13, 0);
        x.addPacket(0, 0, 5, 0);
        x.send(4);
        Check.same("first packet", x.frameByte(0, 3), 0);
        Check.same("behind a packet that filled the frame", x.frameByte(1, 3), 0);
        Check.same("inside a packet", x.frameByte(2, 3), 255);
        Check.same("behind a packet of two frames", x.frameByte(3, 3), 0);
    }

    private static void pointerToTheLastByte() {
        for (int length : LENGTHS) {
            for (int place = 0; place < length; place++) {
                TelemetryLink x = Links.ofLength(length);
                int before = length + place;
                if (before > 53) {
                    // Two packets; the second one begins with the last byte of the frame before.
                    x.addPacket(0, 0, length - 4, 0);
                    before = place + 1;
                }
                x.addPacket(0, 0, before - 3, 0);
                x.addPacket(0, 0, 50, 0);
                x.send(2);
                Check.same("place " + place + " of " + length, x.frameByte(1, 3), place);
            }
        }
    }

    /** "it is 255 if there is no such byte" */
    private static void pointerToNone() {
        for (int length = 8; length <= 17; length++) {
            TelemetryLink x = Links.ofLength(length);
            x.addPacket(3, 0, 50, 0);
            x.send(53 / length);
            for (int frame = 1; frame < 53 / length; frame++) {
                Check.same("frame " + frame + " of " + length, x.frameByte(frame, 3), 255);
            }
        }
        // The last byte of the frame is the last one of the packet.
        TelemetryLink x = Links.ofLength(8);
        x.addPacket(3, 0, 13, 0);
        x.send(2);
        Check.same("packet that ends with the frame", x.frameByte(1, 3), 255);
    }

    private static void pointerToTheFirstOfSeveral() {
        TelemetryLink x = Links.ofLength(40);
        x.addPacket(0, 0, 38, 0);
        for (int i = 0; i < 9; i++) {
            x.addPacket(0, 0, 1, 0);
        }
        x.send(2);
        Check.same("one packet", x.frameByte(0, 3), 0);
        Check.same("the first of ten", x.frameByte(1, 3), 1);
        Check.same("its application", x.frameByte(1, 6), 1);
    }

    private static void pointerToAnIdlePacket() {
        TelemetryLink x = Links.ofLength(8);
        x.addPacket(0, 0, 12, 0);
        x.send(2);
        Check.same("idle packet with one byte", x.frameByte(1, 3), 7);
        Check.same("its first byte", x.frameByte(1, 11), 15);
        TelemetryLink y = Links.ofLength(8);
        y.addPacket(0, 0, 6, 0);
        y.send(2);
        Check.same("idle packet behind one byte", y.frameByte(1, 3), 1);
        Check.same("its application", y.frameByte(1, 5), 15);
    }

    /** "An idle frame has the channel 7, the first header pointer 254, and data bytes that are 85." */
    private static void idleFrames() {
        for (int length = 8; length <= 40; length++) {
            TelemetryLink x = Links.ofLength(length);
            x.addPacket(0, 0, 50, 200);
            x.send(7);
            x.receive(7);
            // The frames that are gone had other bytes.
            x.send(8);
            for (int frame = 0; frame < 2; frame++) {
                Check.same("channel", x.frameByte(7 - frame, 1), 7);
                Check.same("pointer", x.frameByte(7 - frame, 3), 254);
                for (int i = 0; i < length; i++) {
                    Check.same("byte " + i, x.frameByte(7 - frame, 4 + i), 85);
                }
                Check.same("check value", x.frameByte(7 - frame, length + 4) * 256
                        + x.frameByte(7 - frame, length + 5), checkOf(x, 7 - frame, length + 4));
            }
        }
    }
}
