/** The edges of the promises 1 to 4: a new object, and what the settings answer. */
final class SettingsEdgesTest {
    private SettingsEdgesTest() {
    }

    public static void main(String[] args) {
        newObject();
        newObjectsUndoStack();
        previousLengthOfEachLength();
        lengthOfLaterFramesAlone();
        previousPriorityOfEachPriority();
        settingsOfOneChannelAlone();
        previousDriftOfEachDrift();
        delayAlone();
        Check.end();
    }

    /** "Creates a link as described, with empty queues, an empty wire and all counts 0" */
    private static void newObject() {
        TelemetryLink x = new TelemetryLink();
        for (int channel = 0; channel < 4; channel++) {
            for (int what = 0; what < 3; what++) {
                Check.same("queue", x.queue(channel, what), 0);
                Check.same("sent", x.sent(channel, what), what == 2 ? -1 : 0);
            }
            for (int what = 0; what < 4; what++) {
                Check.same("received", x.received(channel, what), 0);
            }
        }
        for (int what = 0; what < 6; what++) {
            Check.same("count", x.count(what), 0);
        }
        for (int application = 0; application < 15; application++) {
            for (int what = 0; what < 3; what++) {
                Check.same("application", x.application(application, what), 0);
            }
        }
        Check.same("idle frames", x.sent(7, 0), 0);
        Check.same("wire", x.wire(), 0);
        Check.same("packets", x.packets(), 0);
        Check.same("time pairs", x.timePairs(), 0);
        Check.same("slot", x.slot(), 0);
        Check.same("clock", x.clock(), 0);
        Check.same("next channel", x.nextChannel(), -1);
    }

    /** "with an empty undo stack" */
    private static void newObjectsUndoStack() {
        Twins.refused("undo", TelemetryLink::new, Check.STATE, TelemetryLink::undo);
    }

    /** "Returns the previous length." */
    private static void previousLengthOfEachLength() {
        TelemetryLink x = new TelemetryLink();
        Check.same("at first", x.setFrameLength(8), 16);
        for (int length = 9; length <= 40; length++) {
            Check.same("before " + length, x.setFrameLength(length), length - 1);
        }
        Check.same("from the longest", x.setFrameLength(8), 40);
        Check.same("from the shortest", x.setFrameLength(8), 8);
    }

    private static void lengthOfLaterFramesAlone() {
        TelemetryLink x = Links.ofLength(8);
        x.addPacket(0, 1, 5, 7);
        x.send(1);
        x.setFrameLength(40);
        x.addPacket(0, 2, 37, 9);
        x.send(1);
        Twins.throwing("short frame", Check.INDEX, x, y -> y.frameByte(0, 14));
        Check.same("long frame", x.frameByte(1, 43), (9 + 7 * 36) % 256);
        x.setFrameLength(16);
        Check.same("each with its own length", x.receive(2), 2);
        Check.same("bytes of the first", x.packet(0, 3), 5);
        Check.same("bytes of the second", x.packet(1, 3), 37);
        Check.same("good", x.count(0), 2);
    }

    /** "Returns the previous priority." */
    private static void previousPriorityOfEachPriority() {
        for (int channel = 0; channel < 4; channel++) {
            TelemetryLink x = new TelemetryLink();
            for (int priority = 0; priority <= 9; priority++) {
                int due = Math.max(0, priority - 1);
                Check.same("before " + priority, x.setChannel(channel, priority, 50, 0), due);
            }
            Check.same("the greatest", x.setChannel(channel, 0, 0, 50), 9);
        }
    }

    private static void settingsOfOneChannelAlone() {
        for (int channel = 0; channel < 4; channel++) {
            TelemetryLink x = new TelemetryLink();
            x.setChannel(channel, 9, 0, 50);
            for (int other = 0; other < 4; other++) {
                int due = other == channel ? 9 : 0;
                Check.same("priority", x.setChannel(other, due, 50, 50), due);
            }
        }
    }

    /** "Returns the previous drift." */
    private static void previousDriftOfEachDrift() {
        TelemetryLink x = new TelemetryLink();
        int[] drifts = {0, 1, -1, 999, -999, 1000, -1000, 0};
        for (int i = 1; i < drifts.length; i++) {
            Check.same("before " + drifts[i], x.setClock(drifts[i], 0), drifts[i - 1]);
        }
    }

    private static void delayAlone() {
        TelemetryLink x = Links.ofLength(8);
        x.setClock(7, 0);
        long before = x.digest();
        Check.same("drift", x.setClock(7, 100000), 7);
        Check.same("the digest tells the delay", x.digest() == before ? 1 : 0, 0);
        Check.same("clock", x.clock(), 0);
    }
}
