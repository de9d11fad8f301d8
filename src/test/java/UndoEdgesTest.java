import java.util.ArrayList;
import java.util.List;

/** The edges that the section UNDO names, for the promises 26 and 27. */
final class UndoEdgesTest {
    private UndoEdgesTest() {
    }

    public static void main(String[] args) {
        setFrameLengthIsTakenBack();
        setChannelIsTakenBack();
        setClockIsTakenBack();
        addPacketIsTakenBack();
        sendIsTakenBack();
        corruptIsTakenBack();
        repairIsTakenBack();
        loseIsTakenBack();
        receiveIsTakenBack();
        callsThatChangeNothingAreSaved();
        questionsSaveNothing();
        undoSavesNothing();
        zeroToFiveCalls();
        olderStatesAreDropped();
        newCallsAfterUndo();
        savedStatesStayAsTheyWere();
        undoBySteps();
        undoAfterManyCalls();
        digestOfNothing();
        digestOfEachStackHeight();
        digestOfAFullWire();
        digestOfThirtyPackets();
        digestOfOneAndTwoTimePairs();
        digestOfExtremeSettings();
        digestOfDamagedFrames();
        Check.end();
    }

    private static void takenBack(String what, Twins.Past past, Twins.Step call) {
        Twins.takenBack(what, past, call);
    }

    private static void setFrameLengthIsTakenBack() {
        for (int length : new int[] {8, 16, 40}) {
            takenBack("new", TelemetryLink::new, x -> x.setFrameLength(length));
            takenBack("two pairs", Links::twoTimePairs, x -> x.setFrameLength(length));
        }
    }

    private static void setChannelIsTakenBack() {
        for (int c = 0; c < 4; c++) {
            int channel = c;
            takenBack("priority", Links::busy, x -> x.setChannel(channel, 9, 50, 0));
            takenBack("bound", Links::busy, x -> x.setChannel(channel, 0, 0, 0));
            takenBack("hold", Links::busy, x -> x.setChannel(channel, 0, 50, 50));
        }
    }

    private static void setClockIsTakenBack() {
        takenBack("drift", Links::busy, x -> x.setClock(-1000, 70));
        takenBack("delay", Links::busy, x -> x.setClock(3, 100000));
    }

    private static void addPacketIsTakenBack() {
        for (int c = 0; c < 4; c++) {
            int channel = c;
            takenBack("busy", Links::busy, x -> x.addPacket(channel, 3, 50, 1));
            takenBack("new", TelemetryLink::new, x -> x.addPacket(channel, 0, 1, 0));
        }
        for (int application = 0; application < 15; application++) {
            int a = application;
            takenBack("application " + a, Links::busy, x -> x.addPacket(0, a, 1, 0));
        }
        takenBack("twelfth packet", () -> {
            TelemetryLink x = Links.fullQueue();
            x.send(1);
            return x;
        }, x -> x.addPacket(2, 3, 1, 0));
    }

    private static void sendIsTakenBack() {
        takenBack("idle frame", TelemetryLink::new, x -> x.send(1));
        takenBack("full wire", TelemetryLink::new, x -> x.send(60));
        for (int n = 1; n <= 54; n += n < 6 ? 1 : 12) {
            int slots = n;
            takenBack("busy, " + n, Links::busy, x -> x.send(slots));
            takenBack("full queue, " + n, Links::fullQueue, x -> x.send(slots));
        }
    }

    private static void corruptIsTakenBack() {
        for (int f = 0; f < 6; f++) {
            int frame = f;
            takenBack("first byte", Links::busy, x -> x.corrupt(frame, 0, 1));
            takenBack("last byte", Links::busy, x -> x.corrupt(frame, 13, 255));
        }
        takenBack("last frame", Links::fullWire, x -> x.corrupt(59, 3, 7));
    }

    private static void repairIsTakenBack() {
        takenBack("damaged frame", Links::busy, x -> x.repair(3));
        takenBack("right frame", Links::busy, x -> x.repair(0));
        takenBack("lost frame", Links::busy, x -> x.repair(1));
    }

    private static void loseIsTakenBack() {
        for (int f = 0; f < 6; f++) {
            int frame = f;
            takenBack("frame " + f, Links::busy, x -> x.lose(frame));
        }
        takenBack("last frame", Links::fullWire, x -> x.lose(59));
    }

    private static TelemetryLink framesOfSeveralLengths() {
        TelemetryLink x = new TelemetryLink();
        for (int length : new int[] {40, 9, 16}) {
            x.setFrameLength(length);
            x.addPacket(0, 3, length - 3, length);
            x.send(1);
        }
        x.addPacket(1, 3, 1, 0);
        return x;
    }

    /** Two frames of channel 1 and two packets got lost. */
    private static TelemetryLink missingFramesAndPackets() {
        TelemetryLink x = Links.ofLength(8);
        for (int i = 0; i < 6; i++) {
            x.addPacket(1, 9, 5, i);
        }
        x.send(6);
        x.lose(1);
        x.lose(3);
        x.receive(5);
        Check.same("missing frames", x.received(1, 1), 2);
        Check.same("missing packets", x.application(9, 1), 2);
        return x;
    }

    private static void receiveIsTakenBack() {
        for (int frames = 1; frames <= 3; frames++) {
            int n = frames;
            takenBack("several lengths", UndoEdgesTest::framesOfSeveralLengths, x -> x.receive(n));
        }
        takenBack("missing ones", UndoEdgesTest::missingFramesAndPackets, x -> x.receive(1));
        for (int n = 1; n <= 6; n++) {
            int frames = n;
            takenBack("busy, " + n, Links::busy, x -> x.receive(frames));
        }
        takenBack("full wire", Links::fullWire, x -> x.receive(60));
        takenBack("a packet more than 30", () -> {
            TelemetryLink x = Links.ofLength(8);
            Links.framesOfChannel(x, 1, 30);
            x.addPacket(0, 1, 5, 99);
            x.send(1);
            return x;
        }, x -> x.receive(1));
        takenBack("a third time pair", () -> {
            TelemetryLink x = Links.twoTimePairs();
            Links.framesOfChannel(x, 0, 7);
            x.addPacket(0, 1, 5, 99);
            x.send(1);
            return x;
        }, x -> x.receive(1));
    }

    private static void saves(String what, Twins.Past past, Twins.Step call) {
        TelemetryLink x = past.make();
        x.undo();
        long before = x.digest();
        call.on(x);
        Check.same(what + ": the digest has one state more", x.digest() == before ? 1 : 0, 0);
        Check.same(what + ": two states are left", x.undo(), 2);
        Check.same(what + ": the digest is as before", x.digest(), before);
    }

    /** "saves the whole state on an undo stack when it ends normally, also if it changes nothing" */
    private static void callsThatChangeNothingAreSaved() {
        saves("setFrameLength", Links::twoTimePairs, x -> x.setFrameLength(8));
        saves("setChannel", Links::busy, x -> x.setChannel(0, 0, 50, 0));
        saves("setChannel", Links::busy, x -> x.setChannel(1, 2, 6, 1));
        saves("setClock", Links::busy, x -> x.setClock(3, 70));
        saves("repair", Links::busy, x -> x.repair(0));
        saves("lose", Links::busy, x -> x.lose(1));
        saves("receive a lost frame", () -> {
            TelemetryLink x = Links.busy();
            x.lose(0);
            x.undo();
            x.lose(0);
            return x;
        }, x -> x.receive(1));
    }

    private static void savesNothing(String what, Twins.Step call) {
        for (int height = 0; height <= 3; height++) {
            TelemetryLink x = Links.busy();
            for (int i = height; i < 3; i++) {
                x.undo();
            }
            long before = x.digest();
            call.on(x);
            Check.same(what + ": digest", x.digest(), before);
            for (int left = height; left > 0; left--) {
                Check.same(what + ": states left", x.undo(), left - 1);
            }
            Twins.throwing(what + ": no more states", Check.STATE, x, TelemetryLink::undo);
        }
    }

    private static void questionsSaveNothing() {
        savesNothing("queue", x -> x.queue(0, 0));
        savesNothing("nextChannel", x -> x.nextChannel());
        savesNothing("slot", x -> x.slot());
        savesNothing("sent", x -> x.sent(7, 0));
        savesNothing("wire", x -> x.wire());
        savesNothing("frameByte", x -> x.frameByte(0, 0));
        savesNothing("count", x -> x.count(0));
        savesNothing("received", x -> x.received(0, 0));
        savesNothing("application", x -> x.application(0, 0));
        savesNothing("packets", x -> x.packets());
        savesNothing("packet", x -> x.packet(0, 0));
        savesNothing("packetByte", x -> x.packetByte(0, 0));
        savesNothing("clock", x -> x.clock());
        savesNothing("timePairs", x -> x.timePairs());
        savesNothing("digest", x -> x.digest());
        TelemetryLink x = Links.twoTimePairs();
        x.groundTime(5);
        Check.same("groundTime", x.undo(), 2);
    }

    private static void undoSavesNothing() {
        TelemetryLink x = new TelemetryLink();
        x.setClock(1, 1);
        x.setClock(2, 2);
        Check.same("one is left", x.undo(), 1);
        Check.same("none is left", x.undo(), 0);
        Twins.throwing("empty", Check.STATE, x, TelemetryLink::undo);
        Check.same("drift", x.setClock(0, 0), 0);
    }

    /** "The stack keeps the latest 3 saved states and drops older ones." */
    private static void zeroToFiveCalls() {
        for (int calls = 0; calls <= 5; calls++) {
            TelemetryLink x = new TelemetryLink();
            for (int i = 1; i <= calls; i++) {
                x.setClock(i, 0);
            }
            int kept = Math.min(calls, 3);
            for (int left = kept - 1; left >= 0; left--) {
                Check.same("left of " + calls, x.undo(), left);
            }
            Twins.throwing("empty after " + calls, Check.STATE, x, TelemetryLink::undo);
            Check.same("drift after " + calls, x.setClock(0, 0), calls - kept);
        }
    }

    private static void olderStatesAreDropped() {
        TelemetryLink x = new TelemetryLink();
        for (int i = 0; i < 20; i++) {
            x.send(1);
        }
        for (int left = 2; left >= 0; left--) {
            Check.same("left", x.undo(), left);
            Check.same("slot", x.slot(), 17 + left);
            Check.same("wire", x.wire(), 17 + left);
        }
        Twins.throwing("empty", Check.STATE, x, TelemetryLink::undo);
        Check.same("slot", x.slot(), 17);
    }

    /** "Restores the latest saved state and removes it from the undo stack." */
    private static void newCallsAfterUndo() {
        TelemetryLink x = new TelemetryLink();
        for (int i = 1; i <= 4; i++) {
            x.setFrameLength(10 + i);
        }
        Check.same("back to 13", x.undo(), 2);
        Check.same("another way", x.setFrameLength(30), 13);
        Check.same("and one more", x.setFrameLength(31), 30);
        Check.same("back to 30", x.undo(), 2);
        Check.same("back to 13", x.undo(), 1);
        Check.same("back to 12", x.undo(), 0);
        Twins.throwing("the one before is dropped", Check.STATE, x, TelemetryLink::undo);
        Check.same("length", x.setFrameLength(40), 12);
        Check.same("length of the other way", x.setFrameLength(8), 40);
    }

    /** "The saved state is the one from before the call." */
    private static void savedStatesStayAsTheyWere() {
        TelemetryLink x = Links.busy();
        int[] bytes = new int[4];
        bytes[0] = x.frameByte(0, 5);
        for (int i = 1; i < 4; i++) {
            bytes[i] = x.corrupt(0, 5, i * 50);
        }
        x.frameByte(0, 5);
        for (int left = 2; left >= 0; left--) {
            Check.same("left", x.undo(), left);
            Check.same("byte", x.frameByte(0, 5), bytes[left]);
        }
    }

    private static void undoBySteps() {
        Twins.Step[] steps = {
            x -> x.addPacket(0, 1, 20, 5), x -> x.send(4), x -> x.lose(7), x -> x.receive(3),
            x -> x.setChannel(0, 7, 3, 2), x -> x.corrupt(2, 4, 9), x -> x.repair(2),
            x -> x.setClock(-5, 5), x -> x.addPacket(3, 14, 50, 250), x -> x.send(30),
            x -> x.receive(30),
        };
        TelemetryLink x = Links.busy();
        List<Long> digests = new ArrayList<>();
        for (Twins.Step step : steps) {
            digests.add(x.digest());
            step.on(x);
            if (digests.size() < 3) {
                continue;
            }
            // The stack is full at each of these places, as it is after busy().
            long now = x.digest();
            for (int left = 2; left >= 0; left--) {
                Check.same("left", x.undo(), left);
            }
            for (int back = 2; back >= 0; back--) {
                steps[digests.size() - 1 - back].on(x);
            }
            Check.same("the same calls once more", x.digest(), now);
        }
    }

    private static void undoAfterManyCalls() {
        TelemetryLink x = Links.ofLength(8);
        TelemetryLink twin = Links.ofLength(8);
        for (int i = 0; i < 100; i++) {
            for (TelemetryLink link : new TelemetryLink[] {x, twin}) {
                link.addPacket(i % 4, i % 15, 1 + i % 50, i);
                link.send(1 + i % 9);
                link.receive(1 + i % 9);
            }
            if (i % 10 == 0) {
                x.send(7);
                x.lose(0);
                x.receive(7);
                x.undo();
                x.undo();
                x.undo();
            }
        }
        x.setClock(0, 250);
        twin.setClock(0, 250);
        x.setClock(0, 250);
        twin.setClock(0, 250);
        x.setClock(0, 250);
        twin.setClock(0, 250);
        Twins.sameState("many calls", x, twin);
    }

    /** The document's hash of what can be asked, and of what the test knows of the rest. */
    private static long digestOf(TelemetryLink x, int states, int length, int drift, int delay,
            int[] settings, long... lostFramesAndPairs) {
        List<Long> v = new ArrayList<>();
        add(v, states, length, drift, delay, x.slot(), x.nextChannel(), x.clock());
        for (int c = 0; c < 4; c++) {
            add(v, settings[3 * c], settings[3 * c + 1], settings[3 * c + 2]);
            add(v, x.queue(c, 0), x.queue(c, 1), x.queue(c, 2));
            add(v, x.sent(c, 0), x.sent(c, 1), x.sent(c, 2));
            add(v, x.received(c, 0), x.received(c, 1), x.received(c, 2), x.received(c, 3));
        }
        add(v, x.sent(7, 0), x.wire());
        for (int f = 0; f < x.wire(); f++) {
            add(v, lostFramesAndPairs[f], x.frameByte(f, 3));
            add(v, 256L * x.frameByte(f, length + 4) + x.frameByte(f, length + 5));
        }
        for (int what = 0; what < 6; what++) {
            add(v, x.count(what));
        }
        for (int a = 0; a < 15; a++) {
            add(v, x.application(a, 0), x.application(a, 1), x.application(a, 2));
        }
        add(v, x.packets());
        for (int i = 0; i < x.packets(); i++) {
            for (int what = 0; what < 5; what++) {
                add(v, x.packet(i, what));
            }
        }
        add(v, x.timePairs());
        for (int i = x.wire(); i < lostFramesAndPairs.length; i++) {
            add(v, lostFramesAndPairs[i]);
        }
        long hash = 12171;
        for (long value : v) {
            hash = 31 * hash + value;
        }
        return hash;
    }

    private static void add(List<Long> values, long... more) {
        for (long value : more) {
            values.add(value);
        }
    }

    private static int[] firstSettings() {
        return new int[] {0, 50, 0, 0, 50, 0, 0, 50, 0, 0, 50, 0};
    }

    private static void digestOfNothing() {
        TelemetryLink x = new TelemetryLink();
        Check.same("new", x.digest(), digestOf(x, 0, 16, 0, 250, firstSettings()));
        Check.same("each new one", x.digest(), new TelemetryLink().digest());
    }

    /** "the number of states on the undo stack" */
    private static void digestOfEachStackHeight() {
        for (int calls = 0; calls <= 5; calls++) {
            for (int undone = 0; undone <= Math.min(calls, 3); undone++) {
                TelemetryLink x = new TelemetryLink();
                for (int i = 0; i < calls; i++) {
                    x.setClock(0, 250);
                }
                for (int i = 0; i < undone; i++) {
                    x.undo();
                }
                Check.same(calls + " calls, " + undone + " undone", x.digest(),
                        digestOf(x, Math.min(calls, 3) - undone, 16, 0, 250, firstSettings()));
            }
        }
    }

    private static void digestOfAFullWire() {
        TelemetryLink x = Links.fullWire();
        Check.same("full wire", x.digest(),
                digestOf(x, 3, 8, 0, 250, firstSettings(), new long[60]));
        TelemetryLink y = Links.fullWire();
        long[] lost = new long[60];
        for (int frame : new int[] {0, 17, 59}) {
            y.lose(frame);
            lost[frame] = 1;
        }
        Check.same("with lost frames", y.digest(), digestOf(y, 3, 8, 0, 250, firstSettings(), lost));
    }

    private static void digestOfThirtyPackets() {
        for (int packets = 29; packets <= 31; packets++) {
            TelemetryLink x = Links.ofLength(8);
            for (int i = 0; i < packets; i++) {
                x.addPacket(3, i % 15, 5, i);
                x.send(1);
                x.receive(1);
            }
            Check.same(packets + " packets", x.digest(), digestOf(x, 3, 8, 0, 250, firstSettings()));
        }
    }

    /** "for each time pair, the older one first, the clock value and the time on the ground" */
    private static void digestOfOneAndTwoTimePairs() {
        TelemetryLink x = Links.ofLength(8);
        x.send(5);
        x.receive(5);
        x.setClock(16, 10);
        Links.receive(x, 0, 0, 255);
        Check.same("one pair", x.digest(),
                digestOf(x, 3, 8, 16, 10, firstSettings(), 5005, 5010));
        x.setClock(-16, 20);
        Links.receive(x, 0, 8, 255);
        Check.same("two pairs", x.digest(),
                digestOf(x, 3, 8, -16, 20, firstSettings(), 5005, 5010, 5994, 6020));
        x.setClock(0, 30);
        Links.receive(x, 0, 16, 255);
        Check.same("the latest two pairs", x.digest(),
                digestOf(x, 3, 8, 0, 30, firstSettings(), 5994, 6020, 7000, 7030));
    }

    private static void digestOfExtremeSettings() {
        TelemetryLink x = Links.ofLength(40);
        x.setClock(-1000, 100000);
        x.setChannel(0, 9, 0, 50);
        x.setChannel(1, 1, 2, 3);
        x.setChannel(2, 4, 5, 6);
        x.setChannel(3, 7, 8, 9);
        x.addPacket(3, 1, 36, 0);
        x.send(1);
        int[] settings = {9, 0, 50, 1, 2, 3, 4, 5, 6, 7, 8, 9};
        Check.same("extreme settings", x.digest(), digestOf(x, 3, 40, -1000, 100000, settings, 0));
    }

    /** "its first header pointer and its check value as they are" */
    private static void digestOfDamagedFrames() {
        TelemetryLink x = Links.ofLength(8);
        x.send(2);
        x.corrupt(0, 3, 255);
        x.corrupt(1, 12, 255);
        x.corrupt(1, 13, 129);
        Check.same("pointer", x.frameByte(0, 3), 1);
        Check.same("damaged", x.digest(), digestOf(x, 3, 8, 0, 250, firstSettings(), 0, 0));
        x.lose(1);
        Check.same("lost too", x.digest(), digestOf(x, 3, 8, 0, 250, firstSettings(), 0, 1));
    }
}
