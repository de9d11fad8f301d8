import java.util.ArrayList;
import java.util.List;

/** Promises 26 and 27: undo, digest. */
final class UndoTest {
    private UndoTest() {
    }

    public static void main(String[] args) {
        stack();
        wholeState();
        queueComesBack();
        receiverComesBack();
        refusedCallsSaveNothing();
        digestOfANewObject();
        digestOfABusyObject();
        Check.end();
    }

    private static void stack() {
        TelemetryLink x = new TelemetryLink();
        Check.refuses(x, Check.STATE, "26 empty", x::undo);
        x.setFrameLength(20);
        Check.same("26 one state", x.undo(), 0);
        Check.refuses(x, Check.STATE, "26 empty again", x::undo);
        for (int length = 21; length <= 26; length++) {
            x.setFrameLength(length);
        }
        Check.same("26 three are kept", x.undo(), 2);
        Check.same("26 the second", x.undo(), 1);
        Check.same("26 the third", x.undo(), 0);
        Check.refuses(x, Check.STATE, "26 older ones are dropped", x::undo);
        Check.same("26 the state before the fourth", x.setFrameLength(40), 23);
        x.setFrameLength(39);
        Check.same("26 down to one", x.undo(), 1);
        x.setFrameLength(38);
        Check.same("26 a new branch", x.undo(), 1);
        Check.same("26 the length before it", x.setFrameLength(8), 40);
        x.addPacket(0, 0, 1, 0);
        x.undo();
        Check.same("26 reading saves nothing", x.queue(0, 0) + x.undo(), 1);
    }

    private static void wholeState() {
        TelemetryLink x = new TelemetryLink();
        x.addPacket(0, 0, 20, 0);
        x.addPacket(1, 1, 50, 0);
        x.send(3);
        x.receive(1);
        x.setClock(0, 250);
        x.setClock(0, 250);
        x.setClock(0, 250);
        String before = everything(x);
        x.lose(0);
        x.undo();
        sameText("26 after lose", everything(x), before);
        x.corrupt(1, 9, 9);
        x.undo();
        sameText("26 after corrupt", everything(x), before);
        x.receive(2);
        x.undo();
        sameText("26 after receive", everything(x), before);
        x.send(20);
        x.undo();
        sameText("26 after send", everything(x), before);
        x.addPacket(2, 2, 2, 2);
        x.undo();
        sameText("26 after addPacket", everything(x), before);
        Check.same("26 the same calls go on from there", x.receive(2), 1);
        Check.same("26 with the same packet", x.packet(0, 4), 1330);
    }

    private static void queueComesBack() {
        TelemetryLink x = new TelemetryLink();
        TelemetryLink twin = new TelemetryLink();
        for (TelemetryLink link : new TelemetryLink[] {x, twin}) {
            link.send(2);
            link.setChannel(0, 0, 3, 0);
            link.setChannel(1, 5, 50, 0);
            link.addPacket(0, 3, 20, 50);
            link.addPacket(0, 4, 30, 90);
            link.addPacket(0, 4, 9, 7);
            link.addPacket(1, 5, 50, 1);
            link.send(4);
            link.send(1);
        }
        x.send(20);
        x.undo();
        x.addPacket(0, 9, 1, 1);
        x.undo();
        Check.same("26 wait", x.queue(0, 2), twin.queue(0, 2));
        Check.same("26 bytes", x.queue(0, 1), twin.queue(0, 1));
        x.send(10);
        twin.send(10);
        Check.same("26 latency", x.sent(0, 2), twin.sent(0, 2));
        for (int frame = 0; frame < 17; frame++) {
            for (int index = 0; index < 22; index++) {
                Check.same("26 byte " + index + " of frame " + frame,
                        x.frameByte(frame, index), twin.frameByte(frame, index));
            }
        }
    }

    private static void receiverComesBack() {
        TelemetryLink x = new TelemetryLink();
        // The twin never undoes anything.
        TelemetryLink twin = new TelemetryLink();
        for (TelemetryLink link : new TelemetryLink[] {x, twin}) {
            for (int i = 0; i < 12; i++) {
                link.addPacket(i % 2, 3, 20, i);
            }
            link.send(24);
            link.lose(2);
            link.lose(3);
            link.lose(6);
            link.receive(9);
        }
        x.lose(1);
        x.receive(4);
        x.undo();
        x.undo();
        sameAnswers(x, twin);
        Check.same("26 receive", x.receive(15), twin.receive(15));
        sameAnswers(x, twin);
        Check.same("26 missing frames", x.count(2), 3);
    }

    private static void sameAnswers(TelemetryLink x, TelemetryLink twin) {
        for (int what = 0; what < 6; what++) {
            Check.same("26 count " + what, x.count(what), twin.count(what));
        }
        for (int channel = 0; channel < 4; channel++) {
            for (int what = 0; what < 4; what++) {
                Check.same("26 received " + channel + " " + what,
                        x.received(channel, what), twin.received(channel, what));
            }
        }
        for (int what = 0; what < 3; what++) {
            Check.same("26 application " + what, x.application(3, what), twin.application(3, what));
        }
        Check.same("26 packets", x.packets(), twin.packets());
        for (int index = 0; index < twin.packets(); index++) {
            for (int what = 0; what < 5; what++) {
                Check.same("26 packet " + index, x.packet(index, what), twin.packet(index, what));
            }
        }
    }

    private static void refusedCallsSaveNothing() {
        TelemetryLink x = new TelemetryLink();
        x.setFrameLength(10);
        Check.refuses(x, Check.ARGUMENT, "26 setFrameLength", () -> x.setFrameLength(7));
        Check.refuses(x, Check.INDEX, "26 setChannel", () -> x.setChannel(4, 0, 0, 0));
        Check.refuses(x, Check.ARGUMENT, "26 setClock", () -> x.setClock(1001, 0));
        Check.refuses(x, Check.INDEX, "26 addPacket", () -> x.addPacket(4, 0, 1, 0));
        Check.refuses(x, Check.ARGUMENT, "26 send", () -> x.send(0));
        Check.refuses(x, Check.INDEX, "26 corrupt", () -> x.corrupt(0, 0, 1));
        Check.refuses(x, Check.INDEX, "26 repair", () -> x.repair(0));
        Check.refuses(x, Check.INDEX, "26 lose", () -> x.lose(0));
        Check.refuses(x, Check.STATE, "26 receive", () -> x.receive(1));
        Check.same("26 one state still", x.undo(), 0);
    }

    private static void digestOfANewObject() {
        long[] values = new long[7 + 4 * 13 + 1 + 1 + 6 + 45 + 1 + 1];
        values[1] = 16;
        values[3] = 250;
        values[5] = -1;
        for (int channel = 0; channel < 4; channel++) {
            values[7 + channel * 13 + 1] = 50;
            values[7 + channel * 13 + 8] = -1;
        }
        long hash = 12171;
        for (long value : values) {
            hash = 31 * hash + value;
        }
        Check.same("27 new object", new TelemetryLink().digest(), hash);
    }

    private static void digestOfABusyObject() {
        TelemetryLink x = new TelemetryLink();
        x.setClock(-7, 40);
        for (int i = 0; i < 9; i++) {
            x.addPacket(0, i, 13, i * 20);
        }
        x.addPacket(3, 14, 20, 1);
        x.send(20);
        x.lose(3);
        x.receive(15);
        x.setChannel(2, 3, 4, 5);
        x.lose(1);
        x.corrupt(2, 3, 8);
        List<Long> values = new ArrayList<>();
        addAll(values, 3, 16, -7, 40, 20, -1, 20000 - 9);
        for (int channel = 0; channel < 4; channel++) {
            addAll(values, channel == 2 ? 3 : 0, channel == 2 ? 4 : 50, channel == 2 ? 5 : 0);
            for (int what = 0; what < 3; what++) {
                values.add((long) x.queue(channel, what));
            }
            for (int what = 0; what < 3; what++) {
                values.add((long) x.sent(channel, what));
            }
            for (int what = 0; what < 4; what++) {
                values.add((long) x.received(channel, what));
            }
        }
        addAll(values, x.sent(7, 0), 5);
        for (int frame = 0; frame < 5; frame++) {
            addAll(values, frame == 1 ? 1 : 0, frame == 2 ? 254 ^ 8 : 254);
            values.add(x.frameByte(frame, 20) * 256L + x.frameByte(frame, 21));
        }
        for (int what = 0; what < 6; what++) {
            values.add((long) x.count(what));
        }
        for (int application = 0; application < 15; application++) {
            for (int what = 0; what < 3; what++) {
                values.add((long) x.application(application, what));
            }
        }
        values.add((long) x.packets());
        for (int index = 0; index < x.packets(); index++) {
            for (int what = 0; what < 5; what++) {
                values.add((long) x.packet(index, what));
            }
        }
        Check.same("27 two time pairs", x.timePairs(), 2);
        addAll(values, 2, pairsOf(x)[0], pairsOf(x)[1], pairsOf(x)[2], pairsOf(x)[3]);
        long hash = 12171;
        for (long value : values) {
            hash = 31 * hash + value;
        }
        Check.reads(x, "27 busy object", x::digest, hash);
    }

    /** Channels 0 and 3 take turns: channel 0's first frame and its ninth give the pairs. */
    private static long[] pairsOf(TelemetryLink x) {
        int slotOfNinth = 8 + x.sent(3, 0);
        long clock = 1000L * slotOfNinth + Math.floorDiv(-7L * slotOfNinth, 16L);
        return new long[] {0, 40, clock, 1000L * slotOfNinth + 40};
    }

    private static void addAll(List<Long> values, long... more) {
        for (long value : more) {
            values.add(value);
        }
    }

    private static void sameText(String what, String got, String want) {
        Check.same(what, got.equals(want) ? 1 : 0, 1);
    }

    /** The digest leaves out the bytes of frames and packets. */
    private static String everything(TelemetryLink x) {
        StringBuilder text = new StringBuilder();
        // Leaves two states at most, so that one more call and its undo drop none.
        x.setClock(0, 250);
        x.undo();
        text.append(x.digest());
        for (int frame = 0; frame < x.wire(); frame++) {
            for (int index = 0; index < 22; index++) {
                text.append(' ').append(x.frameByte(frame, index));
            }
        }
        for (int index = 0; index < x.packets(); index++) {
            for (int position = 0; position < x.packet(index, 3); position++) {
                text.append(' ').append(x.packetByte(index, position));
            }
        }
        return text.toString();
    }
}
