/** The edges that the section PACKETS and the promises 5 and 6 name. */
final class PacketEdgesTest {
    private PacketEdgesTest() {
    }

    public static void main(String[] args) {
        firstAndLastChannel();
        sequenceCountsStartWith0();
        sequenceCountAfter255();
        sequenceCountAcrossChannels();
        dataBytesWrapAround();
        largestSeedAndLongestPacket();
        shortestPacket();
        shortestIdlePacket();
        longestIdlePacket();
        emptyQueue();
        twelvePacketsInAQueue();
        idlePacketsTakeNoPlace();
        placeUntilTheLastByteIsSent();
        pendingBytesOfAFullQueue();
        Check.end();
    }

    /** "There are four virtual channels, numbered from 0 to 3." */
    private static void firstAndLastChannel() {
        for (int channel : new int[] {0, 3}) {
            TelemetryLink x = new TelemetryLink();
            x.addPacket(channel, 0, 13, 0);
            for (int c = 0; c < 4; c++) {
                Check.same("queue of " + c, x.queue(c, 1), c == channel ? 16 : 0);
            }
            x.send(1);
            Check.same("channel in the frame", x.frameByte(0, 1), channel);
            x.receive(1);
            Check.same("channel of the packet", x.packet(0, 0), channel);
        }
        for (int channel : new int[] {-1, 4}) {
            TelemetryLink x = new TelemetryLink();
            Twins.throwing("no channel " + channel, Check.INDEX, x, y -> y.addPacket(channel, 0, 13, 0));
        }
    }

    /** "The sequence count of an application starts with 0" */
    private static void sequenceCountsStartWith0() {
        TelemetryLink x = new TelemetryLink();
        for (int application = 0; application < 15; application++) {
            Check.same("first of " + application, x.addPacket(application % 4, application, 1, 0), 0);
        }
        for (int application = 14; application >= 0; application--) {
            Check.same("second of " + application, x.addPacket(application % 4, application, 1, 0), 1);
        }
    }

    /** "and increases by 1, modulo 256" */
    private static void sequenceCountAfter255() {
        for (int application : new int[] {0, 14}) {
            TelemetryLink x = Links.ofLength(40);
            for (int i = 0; i < 258; i++) {
                Check.same("count of packet " + i, x.addPacket(1, application, 1, 0), i % 256);
                if (i % 10 == 9) {
                    x.send(1);
                    x.receive(1);
                }
            }
            Check.same("another application", x.addPacket(1, 7, 1, 0), 0);
            x.send(1);
            // The frame begins with the packet of the count 250.
            int[] due = {250, 251, 252, 253, 254, 255, 0, 1};
            for (int i = 0; i < 8; i++) {
                Check.same("count in the frame", x.frameByte(0, 4 + 4 * i + 1), due[i]);
            }
        }
    }

    /** "with each of its packets, whatever their channels are" */
    private static void sequenceCountAcrossChannels() {
        TelemetryLink x = Links.ofLength(40);
        for (int i = 0; i < 254; i++) {
            x.addPacket(0, 5, 1, 0);
            if (i % 10 == 9) {
                x.send(1);
                x.receive(1);
            }
        }
        Check.same("254 in channel 3", x.addPacket(3, 5, 1, 0), 254);
        Check.same("255 in channel 1", x.addPacket(1, 5, 1, 0), 255);
        Check.same("0 in channel 2", x.addPacket(2, 5, 1, 0), 0);
        Check.same("1 in channel 0", x.addPacket(0, 5, 1, 0), 1);
    }

    private static TelemetryLink sentAlone(int length, int seed) {
        TelemetryLink x = Links.ofLength(40);
        x.addPacket(0, 2, length, seed);
        x.send(2);
        return x;
    }

    /** The byte of the data fields of the frames 0 and 1, taken together. */
    private static int dataByte(TelemetryLink x, int place) {
        return place < 40 ? x.frameByte(0, 4 + place) : x.frameByte(1, 4 + place - 40);
    }

    /** "Data byte i, from 0 on, is (seed + 7 * i) modulo 256" */
    private static void dataBytesWrapAround() {
        TelemetryLink below = sentAlone(3, 241);
        Check.same("241", dataByte(below, 3), 241);
        Check.same("241 + 7", dataByte(below, 4), 248);
        Check.same("241 + 14", dataByte(below, 5), 255);
        TelemetryLink at = sentAlone(3, 249);
        Check.same("249 + 7", dataByte(at, 4), 0);
        Check.same("249 + 14", dataByte(at, 5), 7);
        TelemetryLink above = sentAlone(2, 250);
        Check.same("250 + 7", dataByte(above, 4), 1);
    }

    private static void largestSeedAndLongestPacket() {
        for (int seed : new int[] {0, 1, 254, 255}) {
            TelemetryLink x = sentAlone(50, seed);
            Check.same("n", dataByte(x, 2), 50);
            int sum = 0;
            for (int i = 0; i < 50; i++) {
                Check.same("byte " + i, dataByte(x, 3 + i), (seed + 7 * i) % 256);
                sum += (seed + 7 * i) % 256;
            }
            Check.same("idle packet behind it", dataByte(x, 53), 15);
            Check.same("delivered", x.receive(2), 1);
            Check.same("sum", x.packet(0, 4), sum);
            Check.same("last byte", x.packetByte(0, 49), (seed + 343) % 256);
        }
    }

    /** "n is 1 to 50. It consists of 3 + n bytes" */
    private static void shortestPacket() {
        TelemetryLink x = new TelemetryLink();
        x.addPacket(0, 14, 1, 255);
        Check.same("4 bytes", x.queue(0, 1), 4);
        x.addPacket(0, 14, 50, 255);
        Check.same("53 bytes", x.queue(0, 1), 57);
        x.send(1);
        int[] due = {14, 0, 1, 255, 14, 1, 50, 255, 6};
        for (int i = 0; i < due.length; i++) {
            Check.same("byte " + i, x.frameByte(0, 4 + i), due[i]);
        }
    }

    /** "An idle packet has the application 15, the sequence count 0, and data bytes that are 170." */
    private static void shortestIdlePacket() {
        TelemetryLink x = Links.ofLength(8);
        for (int i = 0; i < 3; i++) {
            x.addPacket(0, 0, 1, 0);
            x.send(1);
            int[] due = {0, i, 1, 0, 15, 0, 1, 170};
            for (int place = 0; place < 8; place++) {
                Check.same("byte " + place, x.frameByte(i, 4 + place), due[place]);
            }
        }
    }

    private static void longestIdlePacket() {
        // One byte of an idle packet is pending; the other 39 are one more idle packet.
        TelemetryLink x = Links.ofLength(40);
        x.addPacket(0, 0, 34, 0);
        x.send(2);
        Check.same("byte of the first idle packet", x.frameByte(1, 4), 170);
        Check.same("pointer", x.frameByte(1, 3), 1);
        Check.same("application", x.frameByte(1, 5), 15);
        Check.same("sequence count", x.frameByte(1, 6), 0);
        Check.same("data bytes", x.frameByte(1, 7), 36);
        for (int place = 4; place < 40; place++) {
            Check.same("byte " + place, x.frameByte(1, 4 + place), 170);
        }
        Check.same("nothing is left", x.queue(0, 1), 0);
    }

    private static void emptyQueue() {
        TelemetryLink x = new TelemetryLink();
        for (int channel = 0; channel < 4; channel++) {
            for (int what = 0; what < 3; what++) {
                Check.same("queue", x.queue(channel, what), 0);
            }
        }
        x.addPacket(2, 0, 13, 0);
        x.send(1);
        for (int what = 0; what < 3; what++) {
            Check.same("queue that is empty again", x.queue(2, what), 0);
        }
    }

    /** "at most 12 that are not idle" */
    private static void twelvePacketsInAQueue() {
        TelemetryLink x = new TelemetryLink();
        for (int channel = 0; channel < 4; channel++) {
            x.setChannel(channel, 9 - channel, 50, 0);
            for (int i = 0; i < 12; i++) {
                Check.same("before", x.queue(channel, 0), i);
                x.addPacket(channel, channel, 1, i);
            }
            Check.same("full", x.queue(channel, 0), 12);
            int full = channel;
            Twins.throwing("thirteenth", Check.STATE, x, y -> y.addPacket(full, 9, 1, 0));
        }
        // 12 packets of 4 bytes fill three frames.
        x.send(12);
        Check.same("in their order", x.receive(12), 48);
        for (int i = 0; i < 30; i++) {
            Check.same("seed " + i, x.packetByte(i, 0), (i + 18) % 12);
        }
    }

    private static void idlePacketsTakeNoPlace() {
        TelemetryLink x = Links.fullQueue();
        Check.same("twelve", x.queue(2, 0), 12);
        Check.same("two bytes of an idle packet before them", x.queue(2, 1), 116);
        x.send(1);
        int[] due = {1, 170, 0, 0, 1, 0, 1, 0};
        for (int place = 0; place < 8; place++) {
            Check.same("byte " + place, x.frameByte(1, 4 + place), due[place]);
        }
        Check.same("pointer behind the idle packet", x.frameByte(1, 3), 2);
        Check.same("one of twelve is sent", x.queue(2, 0), 11);
        Check.same("one more", x.addPacket(2, 0, 1, 0), 1);
        Twins.throwing("full again", Check.STATE, x, y -> y.addPacket(2, 0, 1, 0));
    }

    /** "a packet is in the queue until its last byte is sent" */
    private static void placeUntilTheLastByteIsSent() {
        for (int rest = 0; rest <= 2; rest++) {
            // The first frame ends at the packet's end, or one or two bytes before it.
            TelemetryLink x = Links.ofLength(8);
            x.addPacket(1, 0, 5 + rest, 0);
            for (int i = 0; i < 11; i++) {
                x.addPacket(1, 1, 50, 0);
            }
            x.send(1);
            Check.same("packets, rest of " + rest, x.queue(1, 0), rest == 0 ? 11 : 12);
            if (rest > 0) {
                Twins.throwing("still full", Check.STATE, x, y -> y.addPacket(1, 0, 1, 0));
                x.send(1);
            }
            Check.same("room", x.addPacket(1, 0, 1, 0), 1);
            Twins.throwing("full again", Check.STATE, x, y -> y.addPacket(1, 0, 1, 0));
        }
    }

    /** "The pending bytes of a channel are all bytes of its queue that have not been sent." */
    private static void pendingBytesOfAFullQueue() {
        TelemetryLink x = Links.ofLength(40);
        for (int i = 0; i < 12; i++) {
            x.addPacket(3, 0, 50, 0);
        }
        Check.same("all", x.queue(3, 1), 636);
        x.send(1);
        Check.same("40 less", x.queue(3, 1), 596);
        x.send(14);
        Check.same("the last 36", x.queue(3, 1), 36);
        Check.same("of one packet", x.queue(3, 0), 1);
        x.send(1);
        Check.same("none", x.queue(3, 1), 0);
        Check.same("no packet", x.queue(3, 0), 0);
    }
}
