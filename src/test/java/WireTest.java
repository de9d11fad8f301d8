/** Promises 11 to 15: wire, frameByte, corrupt, repair, lose. */
final class WireTest {
    private WireTest() {
    }

    public static void main(String[] args) {
        frames();
        frameByteRefusals();
        corruption();
        corruptRefusals();
        repairs();
        losses();
        refusalsOfFrames();
        Check.end();
    }

    private static void frames() {
        TelemetryLink x = new TelemetryLink();
        x.addPacket(2, 1, 20, 0);
        x.send(5);
        Check.reads(x, "11 five frames", x::wire, 5);
        x.lose(4);
        Check.reads(x, "11 lost ones included", x::wire, 5);
        Check.reads(x, "12 byte of a lost frame", () -> x.frameByte(4, 0), 4);
        x.receive(2);
        Check.reads(x, "11 three left", x::wire, 3);
        Check.reads(x, "12 the first one is number 0", () -> x.frameByte(0, 0), 2);
        Check.reads(x, "12 the lost one moved up", () -> x.frameByte(2, 0), 4);
        Check.refuses(x, Check.INDEX, "12 no such frame any more", () -> x.frameByte(3, 0));
        x.send(57);
        Check.reads(x, "11 sixty frames", x::wire, 60);
        Check.reads(x, "12 the last one", () -> x.frameByte(59, 0), 61);
        x.receive(60);
        Check.reads(x, "11 none", x::wire, 0);
    }

    private static void frameByteRefusals() {
        TelemetryLink x = new TelemetryLink();
        Check.refuses(x, Check.INDEX, "12 empty wire", () -> x.frameByte(0, 0));
        x.send(2);
        int[] frames = {-1, 2, 60, Integer.MIN_VALUE, Integer.MAX_VALUE};
        int[] bytes = {-1, 22, 46, Integer.MIN_VALUE, Integer.MAX_VALUE};
        for (int i = 0; i < 5; i++) {
            int frame = frames[i];
            int index = bytes[i];
            Check.refuses(x, Check.INDEX, "12 frame " + frame, () -> x.frameByte(frame, 0));
            Check.refuses(x, Check.INDEX, "12 byte " + index, () -> x.frameByte(1, index));
        }
        Check.same("12 last data byte", x.frameByte(1, 19), 85);
    }

    private static void corruption() {
        TelemetryLink x = new TelemetryLink();
        x.send(3);
        Check.same("13 answer", Check.undoable(x, "13", () -> x.corrupt(1, 4, 255)), 170);
        Check.same("13 byte", x.frameByte(1, 4), 170);
        Check.same("13 byte of the frame before", x.frameByte(0, 4), 85);
        Check.same("13 byte of the next frame", x.frameByte(2, 4), 85);
        Check.same("13 back again", x.corrupt(1, 4, 255), 85);
        Check.same("13 pointer", x.corrupt(1, 3, 1), 255);
        int last = x.frameByte(1, 21);
        Check.same("13 check value", x.corrupt(1, 21, 128), last ^ 128);
        Check.same("13 pointer back", x.corrupt(1, 3, 1), 254);
        Check.same("13 check value back", x.corrupt(1, 21, 128), last);
        x.lose(2);
        Check.same("13 a lost frame", x.corrupt(2, 0, 16), 18);
        x.receive(2);
        Check.same("13 good frames", x.count(0), 2);
        Check.same("13 bad frames", x.count(1), 0);
        TelemetryLink all = new TelemetryLink();
        all.setFrameLength(8);
        all.send(14);
        for (int index = 0; index < 14; index++) {
            all.corrupt(index, index, 1 << index % 8);
        }
        all.receive(14);
        Check.same("16 a change of any byte is bad", all.count(1), 14);
        Check.same("16 none is good", all.count(0), 0);
    }

    private static void corruptRefusals() {
        TelemetryLink x = new TelemetryLink();
        Check.refuses(x, Check.INDEX, "13 empty wire", () -> x.corrupt(0, 0, 1));
        x.send(2);
        int[] frames = {-1, 2, 60, Integer.MIN_VALUE, Integer.MAX_VALUE};
        int[] bytes = {-1, 22, 46, Integer.MIN_VALUE, Integer.MAX_VALUE};
        int[] masks = {0, -1, 256, Integer.MIN_VALUE, Integer.MAX_VALUE};
        for (int i = 0; i < 5; i++) {
            int frame = frames[i];
            int index = bytes[i];
            int mask = masks[i];
            Check.refuses(x, Check.INDEX, "13 frame", () -> x.corrupt(frame, 0, 1));
            Check.refuses(x, Check.INDEX, "13 frame and mask", () -> x.corrupt(frame, 0, mask));
            Check.refuses(x, Check.INDEX, "13 byte", () -> x.corrupt(1, index, 1));
            Check.refuses(x, Check.INDEX, "13 byte and mask", () -> x.corrupt(1, index, mask));
            Check.refuses(x, Check.ARGUMENT, "13 mask", () -> x.corrupt(1, 0, mask));
            Check.same("13 byte is as it was", x.frameByte(1, 0), 1);
        }
    }

    private static void repairs() {
        TelemetryLink x = new TelemetryLink();
        x.send(3);
        int check = x.frameByte(1, 20) * 256 + x.frameByte(1, 21);
        Check.same("14 right before", Check.undoable(x, "14 no change", () -> x.repair(1)), check);
        x.corrupt(1, 20, 77);
        x.corrupt(1, 21, 78);
        Check.same("14 back again", Check.undoable(x, "14", () -> x.repair(1)), check);
        Check.same("14 higher byte", x.frameByte(1, 20), check / 256);
        Check.same("14 lower byte", x.frameByte(1, 21), check % 256);
        x.corrupt(1, 10, 3);
        int other = x.repair(1);
        Check.same("14 other data", other == check ? 1 : 0, 0);
        Check.same("14 byte stays changed", x.frameByte(1, 10), 86);
        Check.same("14 both bytes", x.frameByte(1, 20) * 256 + x.frameByte(1, 21), other);
        x.receive(2);
        Check.same("14 good frames", x.count(0), 2);
        x.lose(0);
        x.corrupt(0, 5, 1);
        x.repair(0);
        x.receive(1);
        Check.same("14 a repaired frame stays lost", x.count(0), 2);
    }

    private static void losses() {
        TelemetryLink x = new TelemetryLink();
        x.send(4);
        Check.same("15 first", Check.undoable(x, "15", () -> x.lose(1)), 1);
        Check.same("15 second", x.lose(3), 2);
        Check.same("15 again", Check.undoable(x, "15 again", () -> x.lose(1)), 2);
        x.receive(2);
        Check.same("15 good", x.count(0), 1);
        Check.same("15 lost is not bad", x.count(1), 0);
        Check.same("15 those on the wire alone", x.lose(0), 2);
        x.receive(2);
        Check.same("15 both lost", x.count(0), 1);
        x.send(4);
        Check.same("15 new frames are not lost", x.lose(0), 1);
        x.receive(4);
        Check.same("15 good ones", x.count(0), 4);
        Check.same("15 missing", x.count(2), 4);
    }

    private static void refusalsOfFrames() {
        TelemetryLink x = new TelemetryLink();
        Check.refuses(x, Check.INDEX, "14 empty wire", () -> x.repair(0));
        Check.refuses(x, Check.INDEX, "15 empty wire", () -> x.lose(0));
        x.send(2);
        int[] frames = {-1, 2, 60, Integer.MIN_VALUE, Integer.MAX_VALUE};
        for (int frame : frames) {
            Check.refuses(x, Check.INDEX, "14 frame " + frame, () -> x.repair(frame));
            Check.refuses(x, Check.INDEX, "15 frame " + frame, () -> x.lose(frame));
        }
    }
}
