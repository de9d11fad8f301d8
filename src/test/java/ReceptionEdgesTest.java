import java.util.Arrays;

/**
 * The edges that the section RECEPTION names, for the promises 16 to 22. The frames have 8 bytes
 * of data that the test chooses, with a check value that is right.
 */
final class ReceptionEdgesTest {
    private static final int NO_POINTER = 255;

    private ReceptionEdgesTest() {
    }

    public static void main(String[] args) {
        lostFrameOnlyLeavesTheWire();
        allFramesLost();
        receivedInTheirOrder();
        checkValueWrongByOneBit();
        badChannels();
        badFrameIsIgnored();
        badFrameIsNotTheFirstGoodOne();
        firstGoodFrame();
        missingFramesModulo256();
        lostFramesAround256();
        firstGoodFrameOfAChannel();
        missingFramesOfAChannelModulo256();
        gapsOfChannel7();
        gap0KeepsThePartialPacket();
        gapDropsThePartialPacket();
        gapWithoutPartialPacket();
        gapOf256IsNoGap();
        shortestPartialPacketIsBroken();
        gapEndsStep();
        pointersOfAChannelOutOfStep();
        pointersOfLongFrames();
        pointer255();
        pointersOfAChannelInStep();
        channelsAreApart();
        headerAcrossFrames();
        packetWithoutData();
        packetsWithoutDataInARow();
        longestPacket();
        largestSum();
        shorterPacketAfterALongerOne();
        dataBytesOfAnApplication();
        packetAcrossFrameLengths();
        applications14To16();
        applicationsAbove15();
        idlePacketsAsTheyAre();
        firstPacketOfAnApplication();
        missingPacketsModulo256();
        lastPacketOfAnApplicationAcrossChannels();
        receiveCountsPackets();
        keptPackets();
        moreThan30InOneCall();
        framesOfChannel7();
        Check.end();
    }

    private static TelemetryLink link() {
        return Links.ofLength(8);
    }

    /** A link whose channel is in step and has received the channel count 0, and these bytes. */
    private static TelemetryLink inStep(int channel, int... data) {
        TelemetryLink x = link();
        Links.receive(x, channel, 0, 8 - data.length, fill(data));
        Check.same("in step", x.received(channel, 3), 1);
        return x;
    }

    /** The bytes stand at the end of a data field of 8 bytes. */
    private static int[] fill(int... data) {
        int[] field = new int[8];
        System.arraycopy(data, 0, field, 8 - data.length, data.length);
        return field;
    }

    private static void counts(String what, TelemetryLink x, int... due) {
        for (int i = 0; i < due.length; i++) {
            Check.same(what + ", count " + i, x.count(i), due[i]);
        }
    }

    private static void channel(String what, TelemetryLink x, int channel, int... due) {
        for (int i = 0; i < due.length; i++) {
            Check.same(what + ", received " + i, x.received(channel, i), due[i]);
        }
    }

    /** "A lost frame only leaves the wire." */
    private static void lostFrameOnlyLeavesTheWire() {
        TelemetryLink x = inStep(2, 1, 0, 5, 10);
        x.send(2);
        x.corrupt(0, 4, 1);
        x.lose(0);
        x.lose(1);
        Check.same("none delivered", x.receive(2), 0);
        Check.same("wire", x.wire(), 0);
        counts("lost", x, 1, 0, 0, 0, 0, 0);
        channel("lost", x, 2, 1, 0, 4, 1);
        // The packet goes on in the next frame of the channel.
        Links.receive(x, 2, 1, NO_POINTER, 20, 30, 40, 50, 15, 0, 2, 9);
        Check.same("its bytes", x.packet(0, 4), 10 + 20 + 30 + 40 + 50);
        counts("two are missing", x, 2, 0, 2, 0, 0, 0);
    }

    private static void allFramesLost() {
        TelemetryLink x = link();
        x.send(60);
        for (int frame = 0; frame < 60; frame++) {
            x.lose(frame);
        }
        Check.same("none delivered", x.receive(60), 0);
        counts("all lost", x, 0, 0, 0, 0, 0, 0);
        Check.same("wire", x.wire(), 0);
    }

    /** "The frames on the wire are received in their order." */
    private static void receivedInTheirOrder() {
        TelemetryLink x = link();
        x.send(3);
        for (int i = 0; i < 3; i++) {
            Links.setFrame(x, i, 1, i, 0, 1, i, 5, 60 + i, 0, 0, 0, 0);
        }
        x.receive(2);
        Check.same("two", x.packets(), 2);
        x.receive(1);
        for (int i = 0; i < 3; i++) {
            Check.same("order", x.packetByte(i, 0), 60 + i);
        }
        counts("none missing", x, 3, 0, 0, 0);
    }

    /** "a frame whose check value is not right" */
    private static void checkValueWrongByOneBit() {
        for (int bit = 0; bit < 8; bit++) {
            TelemetryLink x = link();
            x.send(15);
            for (int index = 0; index < 14; index++) {
                x.corrupt(index, index, 1 << bit);
            }
            x.receive(15);
            counts("bit " + bit, x, 1, 14, 0, 0, 0, 1);
        }
    }

    /** "or whose channel is neither 0 to 3 nor 7, is bad" */
    private static void badChannels() {
        for (int part = 0; part < 256; part += 32) {
            TelemetryLink x = link();
            x.send(32);
            for (int i = 0; i < 32; i++) {
                Links.setByte(x, i, 1, part + i);
                x.repair(i);
            }
            int good = 0;
            for (int channel = part; channel < part + 32; channel++) {
                x.receive(1);
                good += channel <= 3 || channel == 7 ? 1 : 0;
                Check.same("good up to channel " + channel, x.count(0), good);
                Check.same("bad up to channel " + channel, x.count(1), channel - part + 1 - good);
            }
            Check.same("good frames of channel 7", x.count(5), part == 0 ? 1 : 0);
            for (int channel = 0; channel < 4; channel++) {
                Check.same("good frames of " + channel, x.received(channel, 0), part == 0 ? 1 : 0);
            }
        }
    }

    /** "and is ignored apart from that" */
    private static void badFrameIsIgnored() {
        for (int channel : new int[] {0, 4, 7}) {
            TelemetryLink x = inStep(0, 1, 0, 5, 10);
            int pairs = x.timePairs();
            x.send(1);
            Links.setFrame(x, 0, channel, 8, 3, 1, 2, 3, 4, 5, 6, 7, 8);
            if (channel != 4) {
                x.corrupt(0, 13, 1);
            }
            Check.same("nothing delivered", x.receive(1), 0);
            counts("bad", x, 1, 1, 0, 0, 0, 0);
            channel("bad", x, 0, 1, 0, 4, 1);
            Check.same("no time pair", x.timePairs(), pairs);
            Links.receive(x, 0, 1, NO_POINTER, 20, 30, 40, 50, 15, 0, 2, 9);
            counts("it is missing", x, 2, 1, 1, 0, 0, 0);
            channel("the next frame", x, 0, 2, 0, 4, 1);
            Check.same("the packet goes on", x.packet(0, 4), 150);
        }
    }

    private static void badFrameIsNotTheFirstGoodOne() {
        TelemetryLink x = link();
        x.send(3);
        Links.setFrame(x, 0, 0, 5, 0, 1, 0, 50);
        x.corrupt(0, 13, 1);
        Links.setFrame(x, 2, 0, 7, 0, 1, 0, 50);
        x.receive(1);
        channel("bad", x, 0, 0, 0, 0, 0);
        x.lose(0);
        x.receive(2);
        counts("first good frame", x, 1, 1, 0, 0);
        channel("first good frame of its channel", x, 0, 1, 0, 8, 1);
    }

    /** "If it is not the first good frame, the number of missing frames increases" */
    private static void firstGoodFrame() {
        for (int master : new int[] {0, 1, 2, 128, 254, 255}) {
            TelemetryLink x = link();
            x.send(1);
            Links.setByte(x, 0, 0, master);
            x.repair(0);
            x.receive(1);
            counts("first master count " + master, x, 1, 0, 0, 0, 0, 1);
        }
    }

    /** "by (master count - master count of the good frame before - 1) modulo 256" */
    private static void missingFramesModulo256() {
        int[] masters = {0, 1, 3, 3, 2, 0, 255, 0, 254, 255, 1, 129, 1, 255, 254};
        int sum = 0;
        TelemetryLink x = link();
        for (int i = 0; i < masters.length; i++) {
            x.send(1);
            Links.setByte(x, 0, 0, masters[i]);
            x.repair(0);
            x.receive(1);
            sum += i == 0 ? 0 : Math.floorMod(masters[i] - masters[i - 1] - 1, 256);
            Check.same("missing after " + masters[i], x.count(2), sum);
        }
        int[] due = {0, 255, 254, 1};
        int[] next = {8, 7, 6, 9};
        for (int i = 0; i < 4; i++) {
            TelemetryLink y = link();
            y.send(2);
            Links.setByte(y, 0, 0, 7);
            y.repair(0);
            Links.setByte(y, 1, 0, next[i]);
            y.repair(1);
            y.receive(2);
            Check.same("missing between 7 and " + next[i], y.count(2), due[i]);
        }
    }

    /** 256 lost frames in a row are not seen, as the count is the same again. */
    private static void lostFramesAround256() {
        for (int lost = 254; lost <= 258; lost++) {
            TelemetryLink x = link();
            x.send(1);
            x.receive(1);
            for (int left = lost; left > 0; left -= 60) {
                int frames = Math.min(left, 60);
                x.send(frames);
                for (int i = 0; i < frames; i++) {
                    x.lose(i);
                }
                x.receive(frames);
            }
            x.send(1);
            x.receive(1);
            counts(lost + " lost frames", x, 2, 0, lost % 256, 0, 0, 2);
        }
    }

    /** "otherwise the gap is 1; the number of missing frames of the channel increases by the gap,
     * except for the first good frame of the channel" */
    private static void firstGoodFrameOfAChannel() {
        for (int count : new int[] {0, 1, 2, 128, 254, 255}) {
            TelemetryLink x = link();
            for (int c = 0; c < 4; c++) {
                channel("none", x, c, 0, 0, 0, 0);
                Links.receive(x, c, count, 6, fill(1, 2));
                channel("first count " + count, x, c, 1, 0, 2, 1);
            }
            counts("first frames", x, 4, 0, 0, 0);
        }
    }

    /** "(channel count - channel count of the good frame of this channel before - 1) modulo 256" */
    private static void missingFramesOfAChannelModulo256() {
        for (int c = 0; c < 4; c++) {
            int[] numbers = {0, 1, 3, 3, 2, 0, 255, 0, 254, 255, 1, 129, 1, 255, 254};
            int sum = 0;
            TelemetryLink x = link();
            for (int i = 0; i < numbers.length; i++) {
                Links.receive(x, c, numbers[i], NO_POINTER);
                sum += i == 0 ? 0 : Math.floorMod(numbers[i] - numbers[i - 1] - 1, 256);
                channel("after " + numbers[i], x, c, i + 1, sum, 0, 0);
            }
            Check.same("master count", x.count(2), 0);
            int[] due = {0, 255, 254, 1};
            int[] next = {8, 7, 6, 9};
            for (int i = 0; i < 4; i++) {
                TelemetryLink y = link();
                Links.receive(y, c, 7, NO_POINTER);
                Links.receive(y, c, next[i], NO_POINTER);
                Check.same("missing between 7 and " + next[i], y.received(c, 1), due[i]);
            }
        }
    }

    private static void gapsOfChannel7() {
        TelemetryLink x = inStep(0, 1, 0, 5, 10);
        int[] numbers = {0, 5, 5, 255};
        for (int number : numbers) {
            Links.receive(x, 7, number, 254);
        }
        counts("gaps of channel 7", x, 5, 0, 0, 0, 0, 4);
        channel("channel 0 has none of them", x, 0, 1, 0, 4, 1);
    }

    private static void gap0KeepsThePartialPacket() {
        for (int first : new int[] {0, 254, 255}) {
            TelemetryLink x = link();
            Links.receive(x, 1, first, 0, 4, 0, 13, 1, 2, 3, 4, 5);
            Check.same("partial", x.received(1, 2), 8);
            int delivered = Links.receive(x, 1, (first + 1) % 256, NO_POINTER, 6, 7, 8, 9, 10, 11, 12, 13);
            Check.same("complete", delivered, 1);
            Check.same("sum", x.packet(0, 4), 91);
            counts("no gap", x, 2, 0, 0, 0, 0, 0);
            channel("no gap", x, 1, 2, 0, 0, 1);
        }
    }

    /** "If the gap is greater than 0 and the channel has a partial packet, it is dropped, and the
     * number of broken packets increases by 1." */
    private static void gapDropsThePartialPacket() {
        for (int gap : new int[] {1, 2, 254, 255}) {
            TelemetryLink x = inStep(3, 4, 0, 6, 1);
            int delivered = Links.receive(x, 3, (gap + 1) % 256, 2, 2, 3, 4, 0, 3, 50, 60, 70);
            Check.same("another packet", delivered, 1);
            counts("gap " + gap, x, 2, 0, 0, 1, 0, 0);
            channel("gap " + gap, x, 3, 2, gap, 0, 1);
            Check.same("its bytes", x.packet(0, 4), 180);
        }
    }

    private static void gapWithoutPartialPacket() {
        TelemetryLink x = inStep(3, 4, 0, 1, 1);
        Check.same("one packet", x.packets(), 1);
        Links.receive(x, 3, 2, NO_POINTER, 2, 3, 4, 0, 3, 50, 60, 70);
        counts("gap without partial packet", x, 2, 0, 0, 0, 0, 0);
        channel("not in step", x, 3, 2, 1, 0, 0);
        // A channel that is not in step has nothing that can break.
        Links.receive(x, 3, 5, NO_POINTER, 2, 3, 4, 0, 3, 50, 60, 70);
        counts("one more gap", x, 3, 0, 0, 0, 0, 0);
        channel("one more gap", x, 3, 3, 3, 0, 0);
    }

    private static void gapOf256IsNoGap() {
        TelemetryLink x = inStep(0, 4, 0, 6, 1);
        for (int i = 0; i < 2; i++) {
            // Frames with the counts 1 to 128, and 129 to 0, get lost.
            for (int left = 128; left > 0; left -= 32) {
                x.send(32);
                for (int frame = 0; frame < 32; frame++) {
                    x.lose(frame);
                }
                x.receive(32);
            }
        }
        Check.same("256 slots", x.slot(), 257);
        Links.receive(x, 0, 1, NO_POINTER, 2, 3, 4, 5, 6, 15, 0, 9);
        counts("nothing is missing", x, 2, 0, 0, 0, 0, 0);
        channel("nothing is missing", x, 0, 2, 0, 3, 1);
        Check.same("the packet goes on", x.packet(0, 4), 21);
    }

    private static void shortestPartialPacketIsBroken() {
        int[] data = {4, 0, 6, 1, 2, 3, 4, 5};
        for (int bytes = 1; bytes <= 8; bytes++) {
            TelemetryLink x = inStep(1, Arrays.copyOf(data, bytes));
            Check.same("bytes", x.received(1, 2), bytes);
            Links.receive(x, 1, 2, NO_POINTER);
            Check.same("broken, " + bytes, x.count(3), 1);
            channel("broken", x, 1, 2, 1, 0, 0);
        }
    }

    /** "If the gap is greater than 0, the channel is not in step." */
    private static void gapEndsStep() {
        TelemetryLink x = inStep(2, 4, 0, 6, 1);
        Links.receive(x, 2, 2, NO_POINTER, 4, 0, 5, 1, 1, 1, 1, 1);
        channel("out of step", x, 2, 2, 1, 0, 0);
        Check.same("its bytes are skipped", x.packets(), 0);
        Links.receive(x, 2, 3, NO_POINTER, 4, 0, 5, 1, 1, 1, 1, 1);
        channel("out of step still, without a gap", x, 2, 3, 1, 0, 0);
        Check.same("a packet", Links.receive(x, 2, 4, 0, 4, 0, 5, 1, 1, 1, 1, 1), 1);
        channel("in step again", x, 2, 4, 1, 0, 1);
        counts("one broken packet", x, 4, 0, 0, 1, 0, 0);
    }

    /** "the bytes of the data field before the first header pointer are skipped, and the channel is
     * in step if the pointer is not 255" */
    private static void pointersOfAChannelOutOfStep() {
        for (int pointer = 0; pointer <= 254; pointer += pointer < 20 ? 1 : 13) {
            TelemetryLink x = link();
            Links.receive(x, 0, 0, pointer, 4, 90, 91, 92, 93, 94, 95, 96);
            channel("pointer " + pointer, x, 0, 1, 0, Math.max(0, 8 - pointer), 1);
        }
        for (int pointer : new int[] {7, 8, 9, 253, 254}) {
            TelemetryLink x = link();
            Links.receive(x, 0, 0, pointer, 3, 90, 91, 92, 93, 94, 95, 4);
            channel("pointer " + pointer, x, 0, 1, 0, pointer == 7 ? 1 : 0, 1);
            Links.receive(x, 0, 1, NO_POINTER, 9, 5, 5, 1, 2, 3, 4, 0);
            Check.same("the next frame is taken whole", x.packets(), 1);
            Check.same("with the byte before", x.packet(0, 1), pointer == 7 ? 4 : 9);
        }
    }

    private static void pointersOfLongFrames() {
        for (int length : new int[] {16, 39, 40}) {
            for (int pointer = length - 2; pointer <= length + 1; pointer++) {
                TelemetryLink x = Links.ofLength(length);
                Links.receive(x, 0, 0, pointer);
                channel("pointer " + pointer + " of " + length, x, 0, 1, 0,
                        Math.max(0, length - pointer), 1);
            }
        }
    }

    /** "(all of them if it is 255)" */
    private static void pointer255() {
        for (int length : new int[] {8, 16, 40}) {
            TelemetryLink x = Links.ofLength(length);
            Links.receive(x, 0, 0, NO_POINTER, 4, 0, 1, 1);
            channel("pointer 255", x, 0, 1, 0, 0, 0);
            Check.same("nothing", x.packets(), 0);
        }
    }

    private static void pointersOfAChannelInStep() {
        for (int pointer : new int[] {0, 1, 4, 7, 8, 254, NO_POINTER}) {
            TelemetryLink x = inStep(0, 4, 0, 6, 1);
            int delivered = Links.receive(x, 0, 1, pointer, 2, 3, 4, 5, 6, 15, 0, 9);
            Check.same("pointer " + pointer, delivered, 1);
            Check.same("its bytes", x.packet(0, 4), 21);
            channel("pointer " + pointer, x, 0, 2, 0, 3, 1);
        }
    }

    private static void channelsAreApart() {
        TelemetryLink x = link();
        for (int c = 0; c < 4; c++) {
            Links.receive(x, c, 10 * c, 8 - c - 1, fill(Arrays.copyOf(new int[] {4, 0, 30, 9}, c + 1)));
        }
        for (int c = 0; c < 4; c++) {
            channel("partial packet of " + c, x, c, 1, 0, c + 1, 1);
        }
        Links.receive(x, 2, 25, NO_POINTER);
        for (int c = 0; c < 4; c++) {
            boolean gap = c == 2;
            channel("after a gap of 2", x, c, gap ? 2 : 1, gap ? 4 : 0, gap ? 0 : c + 1, gap ? 0 : 1);
        }
        counts("one broken packet", x, 5, 0, 0, 1, 0, 0);
    }

    /** "as soon as this has its first three bytes and as many data bytes as its third byte tells" */
    private static void headerAcrossFrames() {
        int[] packet = {6, 7, 4, 10, 20, 30, 40};
        for (int before = 1; before <= 6; before++) {
            TelemetryLink x = inStep(0, Arrays.copyOf(packet, before));
            channel("partial", x, 0, 1, 0, before, 1);
            int[] rest = new int[8];
            Arrays.fill(rest, 200);
            System.arraycopy(packet, before, rest, 0, 7 - before);
            Check.same("one packet", Links.receive(x, 0, 1, NO_POINTER, rest), 1);
            Check.same("application", x.packet(0, 1), 6);
            Check.same("sequence count", x.packet(0, 2), 7);
            Check.same("data bytes", x.packet(0, 3), 4);
            Check.same("sum", x.packet(0, 4), 100);
            channel("the bytes behind it", x, 0, 2, 0, before + 1, 1);
        }
        // All but the last byte, and then the last byte.
        TelemetryLink x = link();
        Check.same("not complete", Links.receive(x, 0, 0, 0, 6, 7, 6, 10, 20, 30, 40, 50), 0);
        channel("8 of 9 bytes", x, 0, 1, 0, 8, 1);
        Check.same("complete", Links.receive(x, 0, 1, NO_POINTER, 60, 9, 9, 9, 9, 9, 9, 9), 1);
        TelemetryLink y = link();
        Check.same("complete with the frame", Links.receive(y, 0, 0, 0, 6, 7, 5, 10, 20, 30, 40, 50), 1);
        channel("nothing is left", y, 0, 1, 0, 0, 1);
    }

    private static void packetWithoutData() {
        TelemetryLink x = inStep(3, 14, 255, 0);
        Check.same("delivered", x.packets(), 1);
        int[] due = {3, 14, 255, 0, 0};
        for (int what = 0; what < 5; what++) {
            Check.same("value " + what, x.packet(0, what), due[what]);
        }
        Twins.throwing("no byte", Check.INDEX, x, y -> y.packetByte(0, 0));
        Check.same("packets", x.application(14, 0), 1);
        Check.same("data bytes", x.application(14, 2), 0);
        channel("nothing is left", x, 3, 1, 0, 0, 1);
        TelemetryLink one = inStep(3, 14, 255, 1, 77);
        Check.same("one byte", one.packetByte(0, 0), 77);
        Twins.throwing("no second byte", Check.INDEX, one, y -> y.packetByte(0, 1));
    }

    private static void packetsWithoutDataInARow() {
        TelemetryLink x = link();
        Check.same("two", Links.receive(x, 0, 0, 0, 1, 0, 0, 2, 0, 0, 1, 1), 2);
        channel("two bytes of the third", x, 0, 1, 0, 2, 1);
        Check.same("three", Links.receive(x, 0, 1, NO_POINTER, 0, 1, 2, 0, 1, 3, 0, 15), 3);
        channel("one byte", x, 0, 2, 0, 1, 1);
        Check.same("packets of 1", x.application(1, 0), 4);
        Check.same("none missing", x.application(1, 1), 0);
    }

    /** "anything can stand in it: all bytes are taken as they are" */
    private static void longestPacket() {
        TelemetryLink x = inStep(0, 2, 0, 255);
        x.send(32);
        for (int i = 0; i < 32; i++) {
            Links.setFrame(x, i, 0, 1 + i, NO_POINTER);
        }
        x.receive(31);
        channel("3 and 248 bytes", x, 0, 32, 0, 251, 1);
        Links.setFrame(x, 0, 0, 32, NO_POINTER, 1, 2, 3, 4, 5, 6, 7, 9);
        Check.same("complete", x.receive(1), 1);
        channel("one byte behind it", x, 0, 33, 0, 1, 1);
        Check.same("data bytes", x.packet(0, 3), 255);
        Check.same("first byte", x.packetByte(0, 0), 85);
        Check.same("last byte", x.packetByte(0, 254), 7);
        Twins.throwing("byte 255", Check.INDEX, x, y -> y.packetByte(0, 255));
        Check.same("sum", x.packet(0, 4), 248 * 85 + 28);
        Check.same("data bytes of the application", x.application(2, 2), 255);
        TelemetryLink most = inStep(0, 2, 0, 255, 0, 0);
        most.send(32);
        for (int i = 0; i < 32; i++) {
            Links.setFrame(most, i, 0, 1 + i, NO_POINTER);
        }
        most.receive(31);
        most.receive(1);
        Check.same("257 bytes, and 258 make it complete", most.received(0, 2), 3);
        Check.same("delivered", most.packets(), 1);
    }

    private static void largestSum() {
        TelemetryLink x = Links.ofLength(40);
        x.send(7);
        // 255 data bytes of 255; an idle frame's bytes are 85. 258 bytes end at byte 18 of frame 6.
        for (int place = 3; place < 258; place++) {
            x.corrupt(place / 40, 4 + place % 40, 85 ^ 255);
        }
        Links.setFrame(x, 0, 0, 0, 0, 14, 0, 255);
        for (int i = 1; i < 7; i++) {
            Links.setFrame(x, i, 0, i, NO_POINTER);
        }
        Check.same("not complete", x.receive(6), 0);
        channel("240 bytes", x, 0, 6, 0, 240, 1);
        Check.same("complete", x.receive(1), 1);
        Check.same("sum", x.packet(0, 4), 255 * 255);
        Check.same("last byte", x.packetByte(0, 254), 255);
        Check.same("data bytes", x.application(14, 2), 255);
    }

    private static void shorterPacketAfterALongerOne() {
        TelemetryLink x = inStep(0, 4, 0, 5, 90, 91, 92, 93, 94);
        Check.same("two", Links.receive(x, 0, 1, 0, 4, 1, 0, 4, 2, 2, 7, 8), 2);
        int[] due = {460, 0, 15};
        for (int i = 0; i < 3; i++) {
            Check.same("sum of " + i, x.packet(i, 4), due[i]);
        }
        Twins.throwing("no byte", Check.INDEX, x, y -> y.packetByte(1, 0));
        Twins.throwing("no third byte", Check.INDEX, x, y -> y.packetByte(2, 2));
    }

    /** "2 data bytes delivered" */
    private static void dataBytesOfAnApplication() {
        TelemetryLink x = inStep(0, 14, 0, 5, 90, 91, 92, 93, 94);
        Check.same("five", x.application(14, 2), 5);
        Links.receive(x, 0, 1, 0, 14, 1, 0, 14, 2, 2, 7, 8);
        Check.same("none and two more", x.application(14, 2), 7);
        Links.receive(x, 1, 1, 0, 14, 3, 5, 1, 1, 1, 1, 1);
        Check.same("five of another channel", x.application(14, 2), 12);
        Check.same("packets", x.application(14, 0), 4);
        Check.same("another application", x.application(13, 2), 0);
    }

    private static void packetAcrossFrameLengths() {
        TelemetryLink x = inStep(0, 4, 0, 20, 1);
        x.setFrameLength(40);
        Check.same("the rest", Links.receive(x, 0, 1, NO_POINTER), 1);
        Check.same("sum", x.packet(0, 4), 1 + 19 * 85);
        channel("the bytes behind it", x, 0, 2, 0, 21, 1);
    }

    /** "if its application is 15, the number of idle packets increases by 1; if it is greater than
     * 15, the packet is dropped, and the number of broken packets increases by 1" */
    private static void applications14To16() {
        for (int application = 14; application <= 16; application++) {
            TelemetryLink x = link();
            int delivered = Links.receive(x, 0, 0, 4, fill(application, 0, 1, 9));
            Check.same("delivered " + application, delivered, application == 14 ? 1 : 0);
            counts("application " + application, x, 1, 0, 0,
                    application == 16 ? 1 : 0, application == 15 ? 1 : 0, 0);
            Check.same("kept", x.packets(), application == 14 ? 1 : 0);
            Check.same("packets of 14", x.application(14, 0), application == 14 ? 1 : 0);
            channel("it left", x, 0, 1, 0, 0, 1);
        }
    }

    private static void applicationsAbove15() {
        for (int application : new int[] {17, 31, 128, 254, 255}) {
            TelemetryLink x = link();
            int delivered = Links.receive(x, 0, 0, 0, application, 0, 1, 9, 3, 0, 1, 9);
            Check.same("the packet behind it", delivered, 1);
            Check.same("kept", x.packets(), 1);
            counts("application " + application, x, 1, 0, 0, 1, 0, 0);
            channel("in step", x, 0, 1, 0, 0, 1);
            for (int a = 0; a < 15; a++) {
                Check.same("packets of " + a, x.application(a, 0), a == 3 ? 1 : 0);
                Check.same("data bytes of " + a, x.application(a, 2), a == 3 ? 1 : 0);
            }
        }
    }

    private static void idlePacketsAsTheyAre() {
        TelemetryLink x = link();
        Check.same("none", Links.receive(x, 0, 0, 0, 15, 200, 2, 1, 2, 15, 0, 0), 0);
        counts("two idle packets", x, 1, 0, 0, 0, 2, 0);
        Check.same("not kept", x.packets(), 0);
        channel("nothing is left", x, 0, 1, 0, 0, 1);
    }

    /** Receives a packet that fills the data field. */
    private static void packet(
            TelemetryLink x, int channel, int count, int application, int sequence) {
        int delivered = Links.receive(x, channel, count, 0, application, sequence, 5, 0, 0, 0, 0, 0);
        Check.same("delivered", delivered, 1);
    }

    /** "if it is not the first one of the application, the number of missing packets increases" */
    private static void firstPacketOfAnApplication() {
        for (int sequence : new int[] {0, 1, 128, 255}) {
            TelemetryLink x = link();
            for (int application = 0; application < 15; application++) {
                packet(x, 1, application, application, sequence);
                Check.same("packets", x.application(application, 0), 1);
                Check.same("missing", x.application(application, 1), 0);
            }
        }
    }

    /** "by (sequence count - sequence count of the packet before - 1) modulo 256" */
    private static void missingPacketsModulo256() {
        for (int application : new int[] {0, 14}) {
            int[] sequences = {0, 1, 3, 3, 2, 0, 255, 0, 254, 255, 1, 129, 1, 255, 254};
            int sum = 0;
            TelemetryLink x = link();
            for (int i = 0; i < sequences.length; i++) {
                packet(x, 0, i, application, sequences[i]);
                sum += i == 0 ? 0 : Math.floorMod(sequences[i] - sequences[i - 1] - 1, 256);
                Check.same("packets", x.application(application, 0), i + 1);
                Check.same("missing after " + sequences[i], x.application(application, 1), sum);
            }
        }
        int[] due = {0, 255, 254, 1};
        int[] next = {8, 7, 6, 9};
        for (int i = 0; i < 4; i++) {
            TelemetryLink x = link();
            packet(x, 0, 0, 5, 7);
            packet(x, 0, 1, 5, next[i]);
            Check.same("missing between 7 and " + next[i], x.application(5, 1), due[i]);
        }
    }

    private static void lastPacketOfAnApplicationAcrossChannels() {
        TelemetryLink x = link();
        int[] sequences = {250, 252, 254, 255, 0, 0};
        int[] due = {0, 1, 2, 2, 2, 257};
        for (int i = 0; i < sequences.length; i++) {
            packet(x, i % 4, i / 4, 8, sequences[i]);
            Check.same("missing", x.application(8, 1), due[i]);
            Check.same("another application", x.application(9, 1), 0);
        }
    }

    /** "Returns the number of packets that are not idle that were delivered." */
    private static void receiveCountsPackets() {
        TelemetryLink x = link();
        x.send(3);
        Links.setFrame(x, 0, 0, 0, 0, 1, 0, 0, 15, 0, 0, 1, 1);
        Links.setFrame(x, 1, 1, 0, 0, 2, 0, 0, 16, 0, 0, 2, 1);
        Links.setFrame(x, 2, 0, 1, 255, 0, 15, 0, 0, 1, 2, 0, 15);
        Check.same("packets of three frames", x.receive(3), 4);
        Check.same("kept", x.packets(), 4);
        counts("idle and broken", x, 3, 0, 0, 1, 2, 0);
    }

    /** "the list of delivered packets, which keeps the latest 30" */
    private static void keptPackets() {
        TelemetryLink x = link();
        for (int i = 0; i < 64; i++) {
            x.addPacket(i % 4, i % 15, 5, i);
            x.send(1);
            x.receive(1);
            int kept = Math.min(i + 1, 30);
            Check.same("kept after " + (i + 1), x.packets(), kept);
            if (i >= 28 && i <= 31 || i >= 59) {
                sameKept(x, i + 1 - kept, kept);
            }
        }
    }

    private static void sameKept(TelemetryLink x, int first, int kept) {
        for (int index : new int[] {0, 1, kept - 2, kept - 1}) {
            int packet = first + index;
            Check.same("channel of " + index, x.packet(index, 0), packet % 4);
            Check.same("application of " + index, x.packet(index, 1), packet % 15);
            Check.same("sequence count of " + index, x.packet(index, 2), packet / 15);
            Check.same("byte of " + index, x.packetByte(index, 0), packet);
        }
        Twins.throwing("packet " + kept, Check.INDEX, x, y -> y.packet(kept, 0));
        Twins.throwing("byte of packet " + kept, Check.INDEX, x, y -> y.packetByte(kept, 0));
        Twins.throwing("packet -1", Check.INDEX, x, y -> y.packet(-1, 0));
    }

    private static void moreThan30InOneCall() {
        for (int more = 29; more <= 32; more++) {
            TelemetryLink x = link();
            x.setChannel(0, 2, 50, 0);
            x.setChannel(1, 1, 50, 0);
            for (int i = 0; i < more; i++) {
                x.addPacket(i / 12, 0, 5, i);
            }
            x.send(more);
            Check.same("all are delivered", x.receive(more), more);
            int kept = Math.min(more, 30);
            Check.same("kept", x.packets(), kept);
            Check.same("the first one", x.packetByte(0, 0), more - kept);
            Check.same("the last one", x.packetByte(kept - 1, 0), more - 1);
            Check.same("all are counted", x.application(0, 0), more);
        }
    }

    /** "In channel 7 nothing else happens." */
    private static void framesOfChannel7() {
        TelemetryLink x = link();
        Check.same("none", Links.receive(x, 7, 8, 0, 1, 0, 1, 9, 1, 1, 1, 9), 0);
        counts("channel 7", x, 1, 0, 0, 0, 0, 1);
        Check.same("no packet", x.packets() + x.application(1, 0), 0);
        Check.same("no time pair", x.timePairs(), 0);
        for (int c = 0; c < 4; c++) {
            channel("nothing in " + c, x, c, 0, 0, 0, 0);
        }
    }
}
