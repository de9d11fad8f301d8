/** Promises 1 to 4: a new object, setFrameLength, setChannel, setClock. */
final class SettingsTest {
    private SettingsTest() {
    }

    public static void main(String[] args) {
        newObject();
        newObjectsAreApart();
        frameLength();
        frameLengthOfFramesOnTheWire();
        frameLengthRefusals();
        channelSettings();
        channelRefusals();
        clockSettings();
        clockRefusals();
        Check.end();
    }

    private static void newObject() {
        TelemetryLink x = new TelemetryLink();
        Check.reads(x, "1 nextChannel", x::nextChannel, TelemetryLink.NONE);
        Check.reads(x, "1 slot", x::slot, 0);
        Check.reads(x, "1 wire", x::wire, 0);
        Check.reads(x, "1 packets", x::packets, 0);
        Check.reads(x, "1 timePairs", x::timePairs, 0);
        Check.reads(x, "1 clock", x::clock, 0);
        for (int c = 0; c < 4; c++) {
            int channel = c;
            for (int w = 0; w < 3; w++) {
                int what = w;
                Check.reads(x, "1 queue", () -> x.queue(channel, what), 0);
                Check.reads(x, "1 sent", () -> x.sent(channel, what), what == 2 ? -1 : 0);
            }
            for (int w = 0; w < 4; w++) {
                int what = w;
                Check.reads(x, "1 received", () -> x.received(channel, what), 0);
            }
        }
        for (int w = 0; w < 6; w++) {
            int what = w;
            Check.reads(x, "1 count", () -> x.count(what), 0);
        }
        for (int a = 0; a < 15; a++) {
            int application = a;
            Check.reads(x, "1 application 0", () -> x.application(application, 0), 0);
            Check.reads(x, "1 application 1", () -> x.application(application, 1), 0);
            Check.reads(x, "1 application 2", () -> x.application(application, 2), 0);
        }
        Check.refuses(x, Check.STATE, "1 undo", x::undo);
        Check.same("1 NONE", TelemetryLink.NONE, -1);
        Check.same("1 frame length", x.setFrameLength(16), 16);
        Check.same("1 priority", x.setChannel(3, 0, 50, 0), 0);
        Check.same("1 drift", x.setClock(0, 250), 0);
        Check.same("1 undo 2", x.undo(), 2);
    }

    private static void newObjectsAreApart() {
        TelemetryLink x = new TelemetryLink();
        TelemetryLink y = new TelemetryLink();
        x.addPacket(0, 0, 5, 0);
        x.send(2);
        x.receive(1);
        Check.same("1 queue of the other", y.queue(0, 1), 0);
        Check.same("1 slot of the other", y.slot(), 0);
        Check.same("1 digest of the other", y.digest(), new TelemetryLink().digest());
        Check.same("1 sequence count of the other", y.addPacket(0, 0, 5, 0), 0);
    }

    private static void frameLength() {
        TelemetryLink x = new TelemetryLink();
        Check.same("2 first", x.setFrameLength(8), 16);
        Check.same("2 second", x.setFrameLength(40), 8);
        Check.same("2 third", Check.undoable(x, "2", () -> x.setFrameLength(12)), 40);
        Check.undoable(x, "2 without a change", () -> x.setFrameLength(12));
        x.send(1);
        Check.same("2 last byte", x.frameByte(0, 15), 85);
        x.frameByte(0, 17);
        Check.refuses(x, Check.INDEX, "2 byte behind the frame", () -> x.frameByte(0, 18));
    }

    private static void frameLengthOfFramesOnTheWire() {
        TelemetryLink x = new TelemetryLink();
        x.setFrameLength(8);
        x.addPacket(1, 4, 5, 0);
        x.send(1);
        x.setFrameLength(40);
        x.addPacket(1, 4, 5, 100);
        x.send(1);
        Check.refuses(x, Check.INDEX, "2 short frame", () -> x.frameByte(0, 14));
        Check.same("2 long frame", x.frameByte(1, 43), 170);
        x.frameByte(1, 45);
        Check.refuses(x, Check.INDEX, "2 long frame's end", () -> x.frameByte(1, 46));
        Check.same("2 both are good", x.receive(2), 2);
        Check.same("2 idle packet of the long frame", x.count(4), 1);
    }

    private static void frameLengthRefusals() {
        TelemetryLink x = new TelemetryLink();
        int[] wrong = {7, 41, 0, -8, Integer.MIN_VALUE, Integer.MAX_VALUE};
        for (int length : wrong) {
            Check.refuses(x, Check.ARGUMENT, "2 length " + length, () -> x.setFrameLength(length));
        }
        x.addPacket(3, 0, 1, 0);
        Check.refuses(x, Check.STATE, "2 pending", () -> x.setFrameLength(16));
        Check.refuses(x, Check.ARGUMENT, "2 pending, and length", () -> x.setFrameLength(41));
        x.send(1);
        Check.same("2 all sent", x.setFrameLength(8), 16);
        for (int channel = 0; channel < 4; channel++) {
            // 4 bytes of an idle packet, of which one stays pending.
            x.addPacket(channel, 0, 2, 0);
            x.send(1);
            Check.same("2 rest of an idle packet", x.queue(channel, 1), 1);
            Check.refuses(x, Check.STATE, "2 an idle byte pending", () -> x.setFrameLength(9));
            x.send(1);
            Check.same("2 sent too", Check.undoable(x, "2", () -> x.setFrameLength(8)), 8);
        }
    }

    private static void channelSettings() {
        TelemetryLink x = new TelemetryLink();
        Check.same("3 first", x.setChannel(3, 9, 50, 50), 0);
        Check.same("3 second", x.setChannel(3, 4, 0, 0), 9);
        Check.same("3 third", Check.undoable(x, "3", () -> x.setChannel(3, 0, 7, 8)), 4);
        Check.undoable(x, "3 without a change", () -> x.setChannel(3, 0, 7, 8));
        Check.same("3 other channel", x.setChannel(2, 1, 1, 1), 0);
        TelemetryLink hold = new TelemetryLink();
        hold.setChannel(0, 0, 50, 2);
        hold.addPacket(0, 0, 1, 0);
        Check.same("3 held", hold.nextChannel(), TelemetryLink.NONE);
        hold.setChannel(0, 0, 0, 2);
        Check.same("3 bound is reached", hold.nextChannel(), 0);
        hold.setChannel(0, 0, 50, 0);
        Check.same("3 hold time is reached", hold.nextChannel(), 0);
    }

    private static void channelRefusals() {
        TelemetryLink x = new TelemetryLink();
        int[] channels = {-1, 4, 7, Integer.MIN_VALUE, Integer.MAX_VALUE};
        for (int channel : channels) {
            Check.refuses(x, Check.INDEX, "3 channel", () -> x.setChannel(channel, 0, 50, 0));
            Check.refuses(x, Check.INDEX, "3 channel and all", () -> x.setChannel(channel, 10, 51, 51));
        }
        Check.refuses(x, Check.ARGUMENT, "3 priority 10", () -> x.setChannel(0, 10, 50, 0));
        Check.refuses(x, Check.ARGUMENT, "3 priority -1", () -> x.setChannel(0, -1, 50, 0));
        Check.refuses(x, Check.ARGUMENT, "3 bound 51", () -> x.setChannel(0, 0, 51, 0));
        Check.refuses(x, Check.ARGUMENT, "3 bound -1", () -> x.setChannel(0, 0, -1, 0));
        Check.refuses(x, Check.ARGUMENT, "3 hold 51", () -> x.setChannel(0, 0, 50, 51));
        Check.refuses(x, Check.ARGUMENT, "3 hold -1", () -> x.setChannel(0, 0, 50, -1));
    }

    private static void clockSettings() {
        TelemetryLink x = new TelemetryLink();
        Check.same("4 first", x.setClock(1000, 0), 0);
        Check.same("4 second", x.setClock(-1000, 100000), 1000);
        Check.same("4 third", Check.undoable(x, "4", () -> x.setClock(3, 5)), -1000);
        Check.undoable(x, "4 without a change", () -> x.setClock(3, 5));
        Check.undoable(x, "4 delay alone", () -> x.setClock(3, 6));
    }

    private static void clockRefusals() {
        TelemetryLink x = new TelemetryLink();
        int[] drifts = {1001, -1001, Integer.MIN_VALUE, Integer.MAX_VALUE};
        int[] delays = {-1, 100001, Integer.MIN_VALUE, Integer.MAX_VALUE};
        for (int i = 0; i < 4; i++) {
            int drift = drifts[i];
            int delay = delays[i];
            Check.refuses(x, Check.ARGUMENT, "4 drift " + drift, () -> x.setClock(drift, 0));
            Check.refuses(x, Check.ARGUMENT, "4 delay " + delay, () -> x.setClock(0, delay));
        }
    }
}
