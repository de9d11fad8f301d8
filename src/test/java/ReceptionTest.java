/** Promises 16 to 22: receive, count, received, application, packets, packet, packetByte. */
final class ReceptionTest {
    private ReceptionTest() {
    }

    public static void main(String[] args) {
        packetsAcrossFrames();
        receiveRefusals();
        gapsOfMasterCount();
        gapsOfChannelCount();
        firstFrames();
        badFrames();
        stepWithoutPointer();
        stepByPointer();
        pointersBehindTheData();
        emptyAndLongPackets();
        foreignApplications();
        allApplications();
        gapsOfApplications();
        shortestPartialPacket();
        changedCounts();
        keptPackets();
        packetValues();
        refusals();
        Check.end();
    }

    private static void packetsAcrossFrames() {
        TelemetryLink x = new TelemetryLink();
        x.addPacket(1, 2, 30, 5);
        x.addPacket(1, 3, 6, 250);
        x.addPacket(2, 2, 1, 9);
        x.send(5);
        Check.same("16 nothing complete", x.receive(1), 0);
        Check.reads(x, "18 partial packet", () -> x.received(1, 2), 16);
        Check.reads(x, "18 in step", () -> x.received(1, 3), 1);
        Check.same("16 the packet of channel 2", x.receive(1), 1);
        Check.same("16 both packets", Check.undoable(x, "16", () -> x.receive(2)), 2);
        Check.reads(x, "18 nothing partial", () -> x.received(1, 2), 0);
        Check.reads(x, "18 good frames of channel 1", () -> x.received(1, 0), 3);
        Check.reads(x, "18 good frames of channel 2", () -> x.received(2, 0), 1);
        Check.same("16 an idle frame", x.receive(1), 0);
        Check.reads(x, "17 good frames", () -> x.count(0), 5);
        Check.reads(x, "17 idle packets", () -> x.count(4), 2);
        Check.reads(x, "17 idle frames", () -> x.count(5), 1);
        Check.reads(x, "17 bad, missing and broken", () -> x.count(1) + x.count(2) + x.count(3), 0);
        Check.reads(x, "19 packets", () -> x.application(2, 0), 2);
        Check.reads(x, "19 missing", () -> x.application(2, 1), 254);
        Check.reads(x, "19 data bytes", () -> x.application(2, 2), 31);
        Check.reads(x, "19 data bytes of the other", () -> x.application(3, 2), 6);
        Check.reads(x, "20 packets", x::packets, 3);
    }

    private static void receiveRefusals() {
        TelemetryLink x = new TelemetryLink();
        Check.refuses(x, Check.STATE, "16 empty wire", () -> x.receive(1));
        int[] wrong = {0, -1, 61, Integer.MIN_VALUE, Integer.MAX_VALUE};
        for (int frames : wrong) {
            Check.refuses(x, Check.ARGUMENT, "16 frames " + frames, () -> x.receive(frames));
        }
        x.send(3);
        Check.refuses(x, Check.STATE, "16 too few", () -> x.receive(4));
        x.lose(1);
        Check.same("16 a lost one counts", x.receive(3), 0);
        Check.same("16 two are good", x.count(0), 2);
        Check.same("16 wire is empty", x.wire(), 0);
    }

    private static void gapsOfMasterCount() {
        TelemetryLink x = new TelemetryLink();
        x.send(10);
        x.lose(0);
        x.lose(1);
        x.receive(3);
        Check.same("17 not before the first one", x.count(2), 0);
        x.lose(0);
        x.lose(1);
        x.lose(2);
        x.receive(4);
        Check.same("17 three missing", x.count(2), 3);
        x.corrupt(0, 10, 1);
        x.receive(2);
        Check.same("17 a bad one is missing too", x.count(2), 4);
        x.corrupt(0, 0, 12 ^ 9);
        x.repair(0);
        x.receive(1);
        Check.same("17 a jump ahead", x.count(2), 7);
        x.send(1);
        x.receive(1);
        Check.same("17 a jump back is modulo 256", x.count(2), 7 + 253);
    }

    private static void gapsOfChannelCount() {
        TelemetryLink x = new TelemetryLink();
        x.addPacket(0, 0, 29, 0);
        x.addPacket(0, 0, 29, 1);
        x.addPacket(1, 1, 29, 2);
        x.addPacket(1, 1, 29, 3);
        x.setChannel(0, 1, 50, 0);
        x.send(8);
        x.lose(1);
        x.receive(4);
        Check.same("18 one missing", x.received(0, 1), 1);
        Check.same("17 broken", x.count(3), 1);
        Check.same("18 in step again", x.received(0, 3), 1);
        Check.same("19 one packet", x.application(0, 0), 1);
        Check.same("22 its data", x.packetByte(0, 1), 8);
        x.receive(4);
        Check.same("18 other channel has no gap", x.received(1, 1), 0);
        Check.same("17 master count's gaps", x.count(2), 1);
        Check.same("19 both of the other", x.application(1, 0), 2);

        TelemetryLink clean = new TelemetryLink();
        clean.addPacket(0, 0, 13, 0);
        clean.addPacket(0, 0, 13, 0);
        clean.addPacket(0, 0, 13, 0);
        clean.send(3);
        clean.lose(1);
        clean.receive(3);
        Check.same("17 no partial packet, none broken", clean.count(3), 0);
        Check.same("18 a gap at a border", clean.received(0, 1), 1);
        Check.same("19 two of three", clean.application(0, 0), 2);
        Check.same("19 one missing", clean.application(0, 1), 1);
    }

    private static void firstFrames() {
        TelemetryLink x = new TelemetryLink();
        x.addPacket(0, 0, 45, 0);
        x.addPacket(0, 0, 13, 1);
        x.send(4);
        x.lose(0);
        x.receive(1);
        Check.same("16 the middle of a packet", x.receive(1), 0);
        Check.same("18 not in step", x.received(0, 3), 0);
        Check.same("18 no bytes", x.received(0, 2), 0);
        Check.same("18 first frame, no missing ones", x.received(0, 1), 0);
        Check.same("18 good frames", x.received(0, 0), 1);
        x.receive(1);
        Check.same("18 still not in step", x.received(0, 3), 0);
        Check.same("16 the next packet", x.receive(1), 1);
        Check.same("18 in step", x.received(0, 3), 1);
        Check.same("21 sequence count", x.packet(0, 2), 1);
        Check.same("19 first one, none missing", x.application(0, 1), 0);
        Check.same("17 none broken", x.count(3), 0);
    }

    private static void badFrames() {
        TelemetryLink x = new TelemetryLink();
        x.addPacket(0, 0, 5, 0);
        x.send(2);
        int[] channels = {4, 5, 6, 8, 255};
        for (int i = 0; i < channels.length; i++) {
            x.send(1);
            x.corrupt(2, 1, 7 ^ channels[i]);
            x.repair(2);
            x.receive(1);
            Check.same("17 bad or good", x.count(0) + x.count(1), i + 1);
        }
        Check.same("17 two were good", x.count(0), 2);
        Check.same("17 bad frames", x.count(1), 3);
        TelemetryLink y = new TelemetryLink();
        for (int i = 0; i < channels.length; i++) {
            y.send(1);
            y.corrupt(0, 1, 7 ^ channels[i]);
            y.repair(0);
            y.receive(1);
            Check.same("17 no such channel", y.count(1), i + 1);
        }
        Check.same("17 none is good", y.count(0), 0);
        for (int channel = 0; channel < 4; channel++) {
            y.send(1);
            y.corrupt(0, 1, 7 ^ channel);
            y.repair(0);
            y.receive(1);
            Check.same("18 other channel", y.received(channel, 0), 1);
            Check.same("18 in step by pointer 254", y.received(channel, 3), 1);
            Check.same("18 all bytes skipped", y.received(channel, 2), 0);
        }
        Check.same("17 good in a channel", y.count(0), 4);
        Check.same("17 no idle frame", y.count(5), 0);
        y.addPacket(0, 0, 20, 0);
        y.send(1);
        y.corrupt(0, 1, 7);
        y.repair(0);
        y.receive(1);
        Check.same("17 an idle frame by change", y.count(5), 1);
        Check.same("18 not of channel 0", y.received(0, 0), 1);
    }

    private static void stepWithoutPointer() {
        TelemetryLink x = new TelemetryLink();
        x.addPacket(0, 0, 29, 0);
        x.send(2);
        x.corrupt(0, 3, 255);
        x.repair(0);
        Check.same("16 all skipped by pointer 255", x.receive(1), 0);
        Check.same("18 not in step", x.received(0, 3), 0);
        Check.same("18 nothing partial", x.received(0, 2), 0);
        Check.same("16 still none", x.receive(1), 0);
        Check.same("17 nothing broken", x.count(3), 0);

        TelemetryLink y = new TelemetryLink();
        y.addPacket(0, 0, 29, 0);
        y.send(2);
        y.corrupt(1, 3, 255 ^ 5);
        y.repair(1);
        Check.same("16 in step, the pointer is not looked at", y.receive(2), 1);
    }

    private static void stepByPointer() {
        TelemetryLink x = new TelemetryLink();
        x.setFrameLength(8);
        x.addPacket(0, 0, 6, 0);
        x.addPacket(0, 1, 3, 0);
        x.send(2);
        x.lose(0);
        x.receive(1);
        Check.same("16 first byte behind the pointer", x.receive(1), 1);
        Check.same("21 its application", x.packet(0, 1), 1);
        TelemetryLink y = new TelemetryLink();
        y.addPacket(0, 0, 5, 0);
        y.send(1);
        y.corrupt(0, 3, 8);
        y.repair(0);
        Check.same("16 from byte 8 on", y.receive(1), 0);
        Check.same("17 an idle packet alone", y.count(4), 1);
        Check.same("18 in step", y.received(0, 3), 1);
        TelemetryLink last = new TelemetryLink();
        last.addPacket(0, 0, 5, 0);
        last.send(1);
        last.corrupt(0, 3, 15);
        last.repair(0);
        last.receive(1);
        Check.same("18 the last byte alone", last.received(0, 2), 1);
    }

    private static void pointersBehindTheData() {
        int[] pointers = {16, 17, 100, 254};
        for (int pointer : pointers) {
            TelemetryLink x = new TelemetryLink();
            x.addPacket(0, 0, 5, 0);
            x.send(1);
            x.corrupt(0, 3, pointer);
            x.repair(0);
            Check.same("16 all skipped", x.receive(1), 0);
            Check.same("18 in step", x.received(0, 3), 1);
            Check.same("18 nothing partial", x.received(0, 2), 0);
            Check.same("17 no idle packet", x.count(4), 0);
            x.addPacket(0, 0, 5, 0);
            x.send(1);
            Check.same("16 the next frame", x.receive(1), 1);
        }
    }

    private static void emptyAndLongPackets() {
        TelemetryLink x = new TelemetryLink();
        x.addPacket(0, 4, 13, 0);
        x.send(1);
        x.corrupt(0, 6, 13);
        x.repair(0);
        Check.same("16 a packet without data", x.receive(1), 1);
        Check.same("21 no data bytes", x.packet(0, 3), 0);
        Check.same("21 empty sum", x.packet(0, 4), 0);
        Check.refuses(x, Check.INDEX, "22 no byte", () -> x.packetByte(0, 0));
        // The data bytes 0, 7, 14 are taken as the start of a packet with 14 data bytes.
        Check.same("18 the data bytes are taken as a packet", x.received(0, 2), 13);

        TelemetryLink y = new TelemetryLink();
        y.addPacket(0, 4, 13, 0);
        y.send(1);
        y.corrupt(0, 6, 13 ^ 255);
        y.repair(0);
        Check.same("16 a packet of 255 bytes", y.receive(1), 0);
        Check.same("18 partial", y.received(0, 2), 16);
        for (int i = 0; i < 11; i++) {
            y.addPacket(0, 5, 50, i);
        }
        y.send(15);
        Check.same("16 not yet complete", y.receive(15), 0);
        Check.same("18 256 bytes", y.received(0, 2), 256);
        y.send(1);
        y.receive(1);
        Check.same("21 255 data bytes", y.packet(0, 3), 255);
        Check.same("19 255 data bytes", y.application(4, 2), 255);
        Check.same("22 first byte", y.packetByte(0, 0), 0);
        Check.same("22 a byte of the next packet", y.packetByte(0, 13), 5);
        y.packetByte(0, 254);
        Check.refuses(y, Check.INDEX, "22 byte 255", () -> y.packetByte(0, 255));
    }

    private static void foreignApplications() {
        int[] foreign = {16, 17, 128, 255};
        for (int application : foreign) {
            TelemetryLink x = new TelemetryLink();
            x.addPacket(0, 0, 13, 0);
            x.send(1);
            x.corrupt(0, 4, application);
            x.repair(0);
            Check.same("16 dropped", x.receive(1), 0);
            Check.same("17 broken", x.count(3), 1);
            Check.same("20 not kept", x.packets(), 0);
            Check.same("18 nothing partial", x.received(0, 2), 0);
        }
        TelemetryLink idle = new TelemetryLink();
        idle.addPacket(0, 0, 13, 0);
        idle.send(1);
        idle.corrupt(0, 4, 15);
        idle.repair(0);
        Check.same("16 idle by change", idle.receive(1), 0);
        Check.same("17 idle packet", idle.count(4), 1);
        Check.same("17 not broken", idle.count(3), 0);
    }

    private static void allApplications() {
        TelemetryLink x = new TelemetryLink();
        for (int application = 0; application < 15; application++) {
            x.addPacket(application % 4, application, 13, application);
        }
        x.send(15);
        Check.same("16 all applications", x.receive(15), 15);
        for (int application = 0; application < 15; application++) {
            Check.same("19 application " + application, x.application(application, 0), 1);
            Check.same("19 its data bytes", x.application(application, 2), 13);
        }
    }

    private static void shortestPartialPacket() {
        TelemetryLink x = new TelemetryLink();
        x.addPacket(0, 0, 12, 0);
        x.addPacket(0, 0, 28, 0);
        x.send(3);
        x.lose(1);
        x.receive(1);
        Check.same("18 one byte", x.received(0, 2), 1);
        x.receive(2);
        Check.same("17 one byte is a partial packet", x.count(3), 1);
        Check.same("18 what is left is the start of an idle packet", x.received(0, 2), 2);
    }

    private static void gapsOfApplications() {
        TelemetryLink x = new TelemetryLink();
        for (int i = 0; i < 4; i++) {
            x.addPacket(i, 8, 13, 0);
        }
        x.send(4);
        x.lose(1);
        x.lose(2);
        x.receive(4);
        Check.same("19 two missing across channels", x.application(8, 1), 2);
        Check.same("19 two delivered", x.application(8, 0), 2);
        Check.same("19 other application", x.application(7, 1), 0);
        x.addPacket(0, 8, 13, 0);
        x.send(1);
        x.corrupt(0, 5, 4 ^ 1);
        x.repair(0);
        x.receive(1);
        Check.same("19 a jump back is modulo 256", x.application(8, 1), 2 + 253);
    }

    private static void changedCounts() {
        TelemetryLink x = new TelemetryLink();
        x.addPacket(0, 0, 29, 0);
        x.send(2);
        x.corrupt(1, 2, 1);
        x.repair(1);
        x.receive(2);
        Check.same("18 a count twice is a gap of 255", x.received(0, 1), 255);
        Check.same("17 broken by it", x.count(3), 1);
        Check.same("18 out of step", x.received(0, 3), 0);
    }

    private static void keptPackets() {
        TelemetryLink x = new TelemetryLink();
        x.setFrameLength(8);
        for (int i = 0; i < 35; i++) {
            x.addPacket(i % 4, 1, 5, i);
            x.send(1);
            Check.same("16 packet " + i, x.receive(1), 1);
            Check.same("20 after packet " + i, x.packets(), Math.min(30, i + 1));
        }
        for (int i = 0; i < 30; i++) {
            Check.same("21 sequence count of " + i, x.packet(i, 2), i + 5);
            Check.same("21 channel of " + i, x.packet(i, 0), (i + 5) % 4);
            Check.same("22 byte of " + i, x.packetByte(i, 0), i + 5);
        }
        Check.refuses(x, Check.INDEX, "21 packet 30", () -> x.packet(30, 0));
        x.undo();
        x.undo();
        x.undo();
        Check.refuses(x, Check.INDEX, "22 packet 30", () -> x.packetByte(30, 0));
        Check.same("21 undo brings back the oldest one", x.packet(0, 2), 4);
        Check.same("22 undo brings back its bytes", x.packetByte(0, 1), 11);
        Check.same("21 and the latest one", x.packet(29, 2), 33);
        Check.same("19 and the count", x.application(1, 0), 34);
        Check.same("19 all delivered", x.application(1, 2), 170);
    }

    private static void packetValues() {
        TelemetryLink x = new TelemetryLink();
        x.addPacket(2, 11, 1, 3);
        x.addPacket(2, 12, 50, 255);
        x.send(4);
        x.receive(4);
        Check.reads(x, "21 channel", () -> x.packet(1, 0), 2);
        Check.reads(x, "21 application", () -> x.packet(1, 1), 12);
        Check.reads(x, "21 sequence count", () -> x.packet(1, 2), 0);
        Check.reads(x, "21 data bytes", () -> x.packet(1, 3), 50);
        int sum = 0;
        for (int i = 0; i < 50; i++) {
            int position = i;
            int due = (255 + 7 * i) % 256;
            sum += due;
            Check.reads(x, "22 byte " + i, () -> x.packetByte(1, position), due);
        }
        Check.reads(x, "21 sum", () -> x.packet(1, 4), sum);
        Check.reads(x, "21 one byte", () -> x.packet(0, 3), 1);
        Check.reads(x, "21 its sum", () -> x.packet(0, 4), 3);
        Check.reads(x, "22 its byte", () -> x.packetByte(0, 0), 3);
        Check.refuses(x, Check.INDEX, "22 behind its end", () -> x.packetByte(0, 1));
        Check.refuses(x, Check.INDEX, "22 behind the end", () -> x.packetByte(1, 50));
    }

    private static void refusals() {
        TelemetryLink x = new TelemetryLink();
        Check.refuses(x, Check.INDEX, "21 none yet", () -> x.packet(0, 0));
        Check.refuses(x, Check.INDEX, "21 none yet, and what", () -> x.packet(0, 5));
        Check.refuses(x, Check.INDEX, "22 none yet", () -> x.packetByte(0, 0));
        x.addPacket(0, 0, 13, 0);
        x.send(1);
        x.receive(1);
        int[] whats = {-1, 6, Integer.MIN_VALUE, Integer.MAX_VALUE};
        for (int what : whats) {
            Check.refuses(x, Check.ARGUMENT, "17 what", () -> x.count(what));
            Check.refuses(x, Check.ARGUMENT, "18 what", () -> x.received(0, what));
            Check.refuses(x, Check.ARGUMENT, "19 what", () -> x.application(0, what));
            Check.refuses(x, Check.ARGUMENT, "21 what", () -> x.packet(0, what));
        }
        Check.refuses(x, Check.ARGUMENT, "18 what 4", () -> x.received(0, 4));
        Check.refuses(x, Check.ARGUMENT, "19 what 3", () -> x.application(0, 3));
        Check.refuses(x, Check.ARGUMENT, "21 what 5", () -> x.packet(0, 5));
        Check.refuses(x, Check.INDEX, "22 position 13", () -> x.packetByte(0, 13));
        int[] positions = {-1, 255, Integer.MIN_VALUE, Integer.MAX_VALUE};
        for (int position : positions) {
            Check.refuses(x, Check.INDEX, "22 position", () -> x.packetByte(0, position));
        }
        int[] places = {-1, 15, 30, Integer.MIN_VALUE, Integer.MAX_VALUE};
        for (int place : places) {
            Check.refuses(x, Check.INDEX, "18 channel", () -> x.received(place, 0));
            Check.refuses(x, Check.INDEX, "18 channel and what", () -> x.received(place, 9));
            Check.refuses(x, Check.INDEX, "19 application", () -> x.application(place, 0));
            Check.refuses(x, Check.INDEX, "19 application and what", () -> x.application(place, 9));
            Check.refuses(x, Check.INDEX, "21 packet", () -> x.packet(place, 0));
            Check.refuses(x, Check.INDEX, "21 packet and what", () -> x.packet(place, 9));
            Check.refuses(x, Check.INDEX, "22 packet", () -> x.packetByte(place, 0));
        }
        Check.refuses(x, Check.INDEX, "18 channel 4", () -> x.received(4, 0));
        Check.refuses(x, Check.INDEX, "18 channel 7", () -> x.received(7, 0));
        Check.refuses(x, Check.INDEX, "21 packet 1", () -> x.packet(1, 0));
        Check.refuses(x, Check.INDEX, "22 packet 1", () -> x.packetByte(1, 0));
        x.undo();
        Check.refuses(x, Check.INDEX, "21 a packet that undo took back", () -> x.packet(0, 0));
        Check.refuses(x, Check.INDEX, "22 a packet that undo took back", () -> x.packetByte(0, 0));
        x.receive(1);
        x.addPacket(0, 0, 13, 0);
        x.send(1);
        x.receive(1);
        x.send(1);
        x.undo();
        x.undo();
        Check.refuses(x, Check.INDEX, "22 the second was taken back", () -> x.packetByte(1, 0));
    }
}
