/** Links that have come to some state, and frames whose bytes a test chooses. */
final class Links {
    private Links() {
    }

    static TelemetryLink ofLength(int length) {
        TelemetryLink x = new TelemetryLink();
        x.setFrameLength(length);
        return x;
    }

    /**
     * Something of everything, with frames of 8 bytes of data: frames on the wire, of which one is
     * lost and one is damaged, packets that were delivered, pending bytes, a partial packet, a time
     * pair, and three saved states.
     */
    static TelemetryLink busy() {
        TelemetryLink x = ofLength(8);
        x.setClock(3, 70);
        x.setChannel(1, 2, 6, 1);
        x.addPacket(0, 3, 9, 50);
        x.addPacket(1, 3, 20, 60);
        x.addPacket(2, 7, 6, 70);
        x.addPacket(0, 4, 30, 80);
        x.addPacket(3, 14, 1, 90);
        x.send(9);
        x.receive(6);
        x.addPacket(1, 0, 50, 255);
        x.send(3);
        x.lose(1);
        x.corrupt(3, 5, 9);
        x.setChannel(2, 1, 40, 5);
        return x;
    }

    /** Twelve packets wait in channel 2, behind the rest of an idle packet. */
    static TelemetryLink fullQueue() {
        TelemetryLink x = ofLength(8);
        x.addPacket(2, 5, 3, 0);
        x.send(1);
        for (int i = 0; i < 12; i++) {
            x.addPacket(2, i, 1 + i, 3 * i);
        }
        return x;
    }

    static TelemetryLink fullWire() {
        TelemetryLink x = ofLength(8);
        for (int i = 0; i < 8; i++) {
            x.addPacket(i % 4, i, 30, i);
        }
        x.send(60);
        return x;
    }

    /** A frame of each channel was received; of channel 0 those with the counts 0 to 8. */
    static TelemetryLink twoTimePairs() {
        TelemetryLink x = ofLength(8);
        x.setClock(16, 100);
        framesOfChannel(x, 0, 9);
        return x;
    }

    /** Sends frames of a channel that are filled by one packet each, and receives them. */
    static void framesOfChannel(TelemetryLink x, int channel, int frames) {
        for (int i = 0; i < frames; i++) {
            x.addPacket(channel, 0, 5, 0);
            x.send(1);
            x.receive(1);
        }
    }

    /** Sends idle frames and receives them. */
    static void idleFrames(TelemetryLink x, int frames) {
        for (int left = frames; left > 0; left -= 60) {
            x.send(Math.min(left, 60));
            x.receive(Math.min(left, 60));
        }
    }

    static void setByte(TelemetryLink x, int frame, int index, int value) {
        int mask = x.frameByte(frame, index) ^ value;
        if (mask != 0) {
            x.corrupt(frame, index, mask);
        }
    }

    /** Puts these bytes into a frame, from the channel on; its check value is right afterwards. */
    static void setFrame(
            TelemetryLink x, int frame, int channel, int count, int pointer, int... data) {
        setByte(x, frame, 1, channel);
        setByte(x, frame, 2, count);
        setByte(x, frame, 3, pointer);
        for (int i = 0; i < data.length; i++) {
            setByte(x, frame, 4 + i, data[i]);
        }
        x.repair(frame);
    }

    /** Receives a good frame with these bytes; the rest of its data is as in an idle frame. */
    static int receive(TelemetryLink x, int channel, int count, int pointer, int... data) {
        x.send(1);
        setFrame(x, x.wire() - 1, channel, count, pointer, data);
        return x.receive(1);
    }
}
