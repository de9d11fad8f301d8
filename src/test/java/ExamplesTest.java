/** The four examples at the end of the document's description. */
final class ExamplesTest {
    private ExamplesTest() {
    }

    public static void main(String[] args) {
        packetAndIdlePacketInOneFrame();
        packetBrokenByLostFrame();
        choiceOfTheChannel();
        damagedIdleFrameAndExceptions();
        Check.end();
    }

    private static void packetAndIdlePacketInOneFrame() {
        TelemetryLink x = new TelemetryLink();
        Check.same("1 addPacket", x.addPacket(0, 3, 5, 10), 0);
        Check.same("1 send", x.send(1), 1);
        Check.same("1 pointer", x.frameByte(0, 3), 0);
        Check.same("1 application", x.frameByte(0, 4), 3);
        Check.same("1 data byte 0", x.frameByte(0, 7), 10);
        Check.same("1 data byte 1", x.frameByte(0, 8), 17);
        Check.same("1 receive", x.receive(1), 1);
        Check.same("1 packets", x.packets(), 1);
        Check.same("1 sum", x.packet(0, 4), 120);
        Check.same("1 idle packets", x.count(4), 1);
    }

    private static void packetBrokenByLostFrame() {
        TelemetryLink x = new TelemetryLink();
        Check.same("2 addPacket", x.addPacket(0, 3, 40, 0), 0);
        Check.same("2 send", x.send(3), 3);
        Check.same("2 pointer 0", x.frameByte(0, 3), 0);
        Check.same("2 pointer 1", x.frameByte(1, 3), 255);
        Check.same("2 lose", x.lose(1), 1);
        Check.same("2 receive", x.receive(3), 0);
        Check.same("2 missing", x.count(2), 1);
        Check.same("2 broken", x.count(3), 1);
        Check.same("2 missing of channel", x.received(0, 1), 1);
        Check.same("2 in step", x.received(0, 3), 1);
        Check.same("2 packets", x.packets(), 0);
    }

    private static void choiceOfTheChannel() {
        TelemetryLink x = new TelemetryLink();
        Check.same("3 setChannel 1", x.setChannel(1, 5, 50, 0), 0);
        Check.same("3 setChannel 2", x.setChannel(2, 1, 2, 0), 0);
        Check.same("3 addPacket 1", x.addPacket(1, 1, 50, 0), 0);
        Check.same("3 addPacket 2", x.addPacket(2, 2, 50, 0), 0);
        Check.same("3 send", x.send(4), 4);
        Check.same("3 slot 0", x.frameByte(0, 1), 1);
        Check.same("3 slot 1", x.frameByte(1, 1), 1);
        Check.same("3 slot 2", x.frameByte(2, 1), 2);
        Check.same("3 slot 3", x.frameByte(3, 1), 1);
        Check.same("3 wait", x.queue(1, 2), 0);
    }

    private static void damagedIdleFrameAndExceptions() {
        TelemetryLink x = new TelemetryLink();
        Check.refuses(x, Check.ARGUMENT, "4 addPacket", () -> x.addPacket(0, 15, 1, 0));
        Check.refuses(x, Check.STATE, "4 receive", () -> x.receive(1));
        Check.same("4 send", x.send(1), 0);
        Check.same("4 corrupt", x.corrupt(0, 20, 1), 130);
        Check.same("4 receive", x.receive(1), 0);
        Check.same("4 bad frames", x.count(1), 1);
        Check.refuses(x, Check.STATE, "4 groundTime", () -> x.groundTime(0));
        Check.same("4 undo", x.undo(), 2);
    }
}
