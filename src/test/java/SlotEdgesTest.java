/** The edges that the section SLOTS names, for the promises 3, 6 to 11. */
final class SlotEdgesTest {
    private static final int NONE = TelemetryLink.NONE;
    /** A wait for waiting(): the channel has no pending bytes. */
    private static final int EMPTY = -1;

    private SlotEdgesTest() {
    }

    public static void main(String[] args) {
        priorityAtFirst();
        boundAtFirst();
        holdTimeAtFirst();
        waitStartsWith0();
        waitOfASlotThatBeganWithBytes();
        waitAfterAFrame();
        waitAfterASlotWithoutBytes();
        waitAboveTheBound();
        slotNumbers();
        readyWithDBytes();
        readyAtTheHoldTime();
        readyWithOneByte();
        notReadyWithoutBytes();
        overdueAtTheBound();
        overdueAtOnce();
        overdueBeforeItIsReady();
        notOverdueWithoutBytes();
        overdueBeforePriority();
        greatestWaitMinusBound();
        overdueTieByPriority();
        overdueTieByWait();
        overdueTieByNumber();
        readyByPriority();
        readyTieByWait();
        readyTieByNumber();
        idleFrameWhileAllAreHeld();
        framesThatAreNotIdle();
        latency0();
        latencyOfALaterSlot();
        latencyOfTheLastByte();
        latencyNone();
        latencyOfNoIdlePacket();
        greatestLatency();
        idleBytes();
        wireNumbers();
        Check.end();
    }

    /** Channels with 4 pending bytes each that have waited so long; none of them is ready. */
    private static TelemetryLink waiting(int... waits) {
        TelemetryLink x = Links.ofLength(8);
        int most = 0;
        for (int channel = 0; channel < 4; channel++) {
            x.setChannel(channel, 0, 50, 50);
            most = Math.max(most, waits[channel]);
        }
        for (int left = most; left >= 0; left--) {
            for (int channel = 0; channel < 4; channel++) {
                if (waits[channel] == left) {
                    x.addPacket(channel, channel, 1, 0);
                }
            }
            if (left > 0) {
                x.send(1);
            }
        }
        for (int channel = 0; channel < 4; channel++) {
            Check.same("wait of " + channel, x.queue(channel, 2), Math.max(0, waits[channel]));
        }
        return x;
    }

    /** The next slot must be due to this channel, and its frame must show it. */
    private static void next(String what, TelemetryLink x, int channel) {
        Check.same(what, x.nextChannel(), channel);
        Check.same(what + ", sent", x.send(1), channel == NONE ? 0 : 1);
        Check.same(what + ", frame", x.frameByte(x.wire() - 1, 1), channel == NONE ? 7 : channel);
    }

    /** "at first they are 0, 50 and 0" */
    private static void priorityAtFirst() {
        for (int channel = 0; channel < 4; channel++) {
            Check.same("priority", new TelemetryLink().setChannel(channel, 9, 0, 0), 0);
            // A channel with priority 1 goes before it, whatever their numbers are.
            for (int other = 0; other < 4; other++) {
                TelemetryLink x = new TelemetryLink();
                x.addPacket(channel, 0, 50, 0);
                x.addPacket(other, 0, 50, 0);
                x.setChannel(other, 1, 50, 0);
                next("priority 1", x, other);
            }
        }
    }

    private static void boundAtFirst() {
        for (int channel = 0; channel < 4; channel++) {
            TelemetryLink x = Links.ofLength(8);
            int other = 3 - channel;
            x.setChannel(other, 9, 50, 0);
            x.addPacket(channel, 0, 1, 0);
            for (int i = 0; i < 9; i++) {
                x.addPacket(other, 0, 50, 0);
            }
            x.send(49);
            Check.same("wait", x.queue(channel, 2), 49);
            next("wait 49", x, other);
            Check.same("wait", x.queue(channel, 2), 50);
            next("wait 50", x, channel);
        }
    }

    private static void holdTimeAtFirst() {
        for (int channel = 0; channel < 4; channel++) {
            TelemetryLink x = new TelemetryLink();
            x.addPacket(channel, 0, 1, 0);
            next("few bytes are sent at once", x, channel);
        }
    }

    private static void waitStartsWith0() {
        TelemetryLink x = waiting(0, 0, 0, 0);
        for (int channel = 0; channel < 4; channel++) {
            Check.same("added, but no slot was since", x.queue(channel, 2), 0);
        }
    }

    /** "the number of slots in a row, up to now, at whose beginning it had pending bytes" */
    private static void waitOfASlotThatBeganWithBytes() {
        TelemetryLink x = Links.ofLength(8);
        for (int channel = 0; channel < 4; channel++) {
            x.setChannel(channel, 0, 50, 50);
        }
        x.send(7);
        x.addPacket(2, 0, 1, 0);
        Check.same("slots before it do not count", x.queue(2, 2), 0);
        for (int i = 1; i <= 5; i++) {
            x.send(1);
            Check.same("wait", x.queue(2, 2), i);
            Check.same("wait of an empty channel", x.queue(1, 2), 0);
            x.addPacket(1, 0, 1, 0);
            x.undo();
            Check.same("asked between", x.queue(2, 2), i);
        }
        x.send(44);
        Check.same("wait of 49", x.queue(2, 2), 49);
    }

    /** "the wait is 0 again after a frame" */
    private static void waitAfterAFrame() {
        TelemetryLink x = waiting(5, 6, EMPTY, EMPTY);
        x.addPacket(1, 0, 50, 0);
        Check.same("adding keeps the wait", x.queue(1, 2), 6);
        next("full frame", x, 1);
        Check.same("0 with bytes left", x.queue(1, 2), 0);
        Check.same("the other waits on", x.queue(0, 2), 6);
        next("next frame", x, 1);
        Check.same("0 after each frame", x.queue(1, 2), 0);
        x.setChannel(0, 0, 50, 7);
        next("hold time", x, 0);
        Check.same("0 after the last byte", x.queue(0, 2), 0);
        Check.same("1 after a slot without a frame", x.queue(1, 2), 1);
    }

    /** "and after a slot at whose beginning it had no pending bytes" */
    private static void waitAfterASlotWithoutBytes() {
        TelemetryLink x = waiting(3, EMPTY, 3, EMPTY);
        x.setChannel(0, 0, 50, 0);
        next("hold time", x, 0);
        x.send(2);
        Check.same("empty", x.queue(0, 2), 0);
        x.addPacket(0, 0, 1, 0);
        x.setChannel(0, 0, 50, 50);
        Check.same("added again", x.queue(0, 2), 0);
        x.send(1);
        Check.same("first slot", x.queue(0, 2), 1);
        Check.same("the other waited all the time", x.queue(2, 2), 7);
    }

    private static void waitAboveTheBound() {
        TelemetryLink x = waiting(49, EMPTY, EMPTY, EMPTY);
        // Channels with bound 0 and priority 9 are overdue too, and win the tie.
        x.setChannel(1, 9, 0, 0);
        x.setChannel(2, 9, 0, 0);
        for (int i = 0; i < 3; i++) {
            x.addPacket(1, 0, 50, 0);
            x.addPacket(2, 0, 50, 0);
        }
        int[] order = {1, 2, 1, 0, 2, 1, 2};
        int[] waits = {50, 51, 52, 0, 0, 0, 0};
        for (int i = 0; i < order.length; i++) {
            next("slot " + i, x, order[i]);
            Check.same("wait after slot " + i, x.queue(0, 2), waits[i]);
        }
    }

    /** "One frame is sent in each slot; slots are numbered from 0." */
    private static void slotNumbers() {
        TelemetryLink x = new TelemetryLink();
        Check.same("first slot", x.slot(), 0);
        x.send(1);
        Check.same("next slot", x.slot(), 1);
        Check.same("one frame", x.wire(), 1);
        x.send(59);
        Check.same("after 60", x.slot(), 60);
        Check.same("60 frames", x.wire(), 60);
        Twins.throwing("full", Check.STATE, x, y -> y.send(1));
        Check.same("a refused slot", x.slot(), 60);
        x.receive(60);
        Check.same("received", x.slot(), 60);
        Links.idleFrames(x, 240);
        Check.same("above 255", x.slot(), 300);
    }

    /** "A channel is ready if it has D or more pending bytes" */
    private static void readyWithDBytes() {
        for (int length = 8; length <= 40; length += 8) {
            for (int bytes = length - 1; bytes <= length + 1; bytes++) {
                for (int channel = 0; channel < 4; channel++) {
                    TelemetryLink x = Links.ofLength(length);
                    x.setChannel(channel, 0, 50, 50);
                    x.addPacket(channel, 0, bytes - 3, 0);
                    next(bytes + " bytes", x, bytes < length ? NONE : channel);
                }
            }
        }
    }

    /** "or if it has pending bytes and its wait is at least its hold time" */
    private static void readyAtTheHoldTime() {
        for (int hold : new int[] {0, 1, 2, 49}) {
            for (int wait = Math.max(0, hold - 1); wait <= Math.min(49, hold + 1); wait++) {
                TelemetryLink x = waiting(EMPTY, EMPTY, EMPTY, wait);
                x.setChannel(3, 0, 50, hold);
                next("wait " + wait + ", hold " + hold, x, wait < hold ? NONE : 3);
            }
        }
        // The longest hold time is held against channels that are overdue: those go before.
        TelemetryLink x = waiting(49, EMPTY, EMPTY, EMPTY);
        x.setChannel(0, 9, 50, 50);
        next("wait 49, hold 50", x, NONE);
        next("wait 50, hold 50", x, 0);
    }

    private static void readyWithOneByte() {
        for (int channel = 0; channel < 4; channel++) {
            TelemetryLink x = Links.ofLength(8);
            x.addPacket(channel, 0, 2, 0);
            x.send(1);
            Check.same("one byte of an idle packet", x.queue(channel, 1), 1);
            x.setChannel(channel, 0, 50, 1);
            next("wait 0, hold 1", x, NONE);
            next("wait 1, hold 1", x, channel);
        }
    }

    private static void notReadyWithoutBytes() {
        TelemetryLink x = new TelemetryLink();
        for (int channel = 0; channel < 4; channel++) {
            x.setChannel(channel, 9, 50, 0);
        }
        next("hold 0 and no bytes", x, NONE);
        x.addPacket(2, 0, 13, 0);
        next("the only one with bytes", x, 2);
        next("no bytes again", x, NONE);
    }

    /** "It is overdue if it has pending bytes and its wait is at least its bound." */
    private static void overdueAtTheBound() {
        for (int bound : new int[] {0, 1, 2, 49}) {
            for (int wait = Math.max(0, bound - 1); wait <= Math.min(49, bound + 1); wait++) {
                TelemetryLink x = waiting(EMPTY, EMPTY, wait, EMPTY);
                x.setChannel(2, 0, bound, 50);
                x.setChannel(0, 9, 50, 0);
                x.addPacket(0, 0, 50, 0);
                next("wait " + wait + ", bound " + bound, x, wait < bound ? 0 : 2);
            }
        }
        TelemetryLink x = waiting(EMPTY, EMPTY, 49, EMPTY);
        x.setChannel(0, 9, 50, 0);
        x.addPacket(0, 0, 50, 0);
        next("wait 49, bound 50", x, 0);
        next("wait 50, bound 50", x, 2);
    }

    private static void overdueAtOnce() {
        TelemetryLink x = waiting(EMPTY, 0, EMPTY, EMPTY);
        x.setChannel(1, 0, 0, 50);
        next("bound 0, wait 0", x, 1);
    }

    private static void overdueBeforeItIsReady() {
        TelemetryLink x = waiting(EMPTY, 2, EMPTY, EMPTY);
        x.setChannel(1, 0, 3, 50);
        next("not yet", x, NONE);
        next("few bytes, hold time not reached", x, 1);
        // One byte of an idle packet is enough.
        TelemetryLink one = Links.ofLength(8);
        one.setChannel(3, 0, 50, 0);
        one.addPacket(3, 0, 2, 0);
        one.send(1);
        one.setChannel(3, 0, 1, 50);
        Check.same("one byte", one.queue(3, 1), 1);
        next("not yet", one, NONE);
        next("one byte is overdue", one, 3);
    }

    private static void notOverdueWithoutBytes() {
        TelemetryLink x = Links.ofLength(8);
        x.setChannel(0, 9, 0, 0);
        x.setChannel(1, 9, 0, 0);
        next("bound 0 and no bytes", x, NONE);
        x.addPacket(3, 0, 5, 0);
        next("another channel that is ready", x, 3);
    }

    private static void overdueBeforePriority() {
        for (int late = 0; late < 4; late++) {
            TelemetryLink x = waiting(3, 3, 3, 3);
            for (int channel = 0; channel < 4; channel++) {
                x.setChannel(channel, channel == late ? 0 : 9, channel == late ? 3 : 4, 0);
            }
            next("overdue by 0", x, late);
        }
    }

    /** "the one of them with the greatest wait minus bound" */
    private static void greatestWaitMinusBound() {
        for (int late = 0; late < 4; late++) {
            // Wait minus bound is 1 for all but one channel, whose wait is less, and its priority.
            int[] waits = {6, 6, 6, 6};
            waits[late] = 4;
            TelemetryLink x = waiting(waits);
            for (int channel = 0; channel < 4; channel++) {
                x.setChannel(channel, 9, 5, 50);
            }
            x.setChannel(late, 0, 2, 50);
            next("greatest difference", x, late);
        }
        TelemetryLink x = waiting(49, 3, EMPTY, EMPTY);
        x.setChannel(0, 9, 49, 0);
        x.setChannel(1, 0, 2, 0);
        next("1 before 0", x, 1);
        TelemetryLink far = waiting(49, 48, EMPTY, EMPTY);
        far.setChannel(0, 0, 0, 0);
        far.setChannel(1, 9, 0, 0);
        next("49 before 48", far, 0);
    }

    /** "ties are decided in both cases by the greater priority" */
    private static void overdueTieByPriority() {
        for (int first = 0; first < 4; first++) {
            int[] waits = {7, 7, 7, 7};
            waits[first] = 5;
            TelemetryLink x = waiting(waits);
            for (int channel = 0; channel < 4; channel++) {
                x.setChannel(channel, 8, 6, 50);
            }
            x.setChannel(first, 9, 4, 50);
            next("9 before 8", x, first);
        }
    }

    /** "then by the greater wait" */
    private static void overdueTieByWait() {
        for (int first = 0; first < 4; first++) {
            int[] waits = {5, 5, 5, 5};
            waits[first] = 6;
            TelemetryLink x = waiting(waits);
            for (int channel = 0; channel < 4; channel++) {
                x.setChannel(channel, 4, waits[channel] - 2, 50);
            }
            next("6 before 5", x, first);
        }
    }

    /** "then by the lower number" */
    private static void overdueTieByNumber() {
        for (int first = 0; first < 3; first++) {
            int[] waits = {EMPTY, EMPTY, EMPTY, 4};
            for (int channel = first; channel < 4; channel++) {
                waits[channel] = 4;
            }
            TelemetryLink x = waiting(waits);
            for (int channel = 0; channel < 4; channel++) {
                x.setChannel(channel, 3, 3, 50);
            }
            next("lower number", x, first);
        }
    }

    /** "otherwise, if there are ready ones, the one of them with the greatest priority" */
    private static void readyByPriority() {
        for (int first = 0; first < 4; first++) {
            int[] waits = {9, 9, 9, 9};
            waits[first] = 0;
            TelemetryLink x = waiting(waits);
            for (int channel = 0; channel < 4; channel++) {
                x.setChannel(channel, channel == first ? 1 : 0, 50, 0);
            }
            next("1 before 0", x, first);
        }
        // A channel that is not ready has no say.
        TelemetryLink x = waiting(5, 5, EMPTY, EMPTY);
        x.setChannel(0, 9, 50, 6);
        x.setChannel(1, 0, 50, 5);
        next("priority 9 is held", x, 1);
    }

    private static void readyTieByWait() {
        for (int first = 0; first < 4; first++) {
            int[] waits = {5, 5, 5, 5};
            waits[first] = 6;
            TelemetryLink x = waiting(waits);
            for (int channel = 0; channel < 4; channel++) {
                // The bounds have no say here.
                x.setChannel(channel, 4, channel == first ? 50 : 7, 0);
            }
            next("6 before 5", x, first);
        }
    }

    private static void readyTieByNumber() {
        for (int first = 0; first < 3; first++) {
            int[] waits = {EMPTY, EMPTY, EMPTY, 4};
            for (int channel = first; channel < 4; channel++) {
                waits[channel] = 4;
            }
            TelemetryLink x = waiting(waits);
            for (int channel = 0; channel < 4; channel++) {
                x.setChannel(channel, 3, 50 - channel, 0);
            }
            next("lower number", x, first);
        }
    }

    /** "Otherwise the frame is an idle frame." */
    private static void idleFrameWhileAllAreHeld() {
        TelemetryLink x = waiting(0, 0, 0, 0);
        Check.same("idle frames", x.send(49), 0);
        Check.same("all are idle", x.sent(7, 0), 49);
        next("wait 49", x, NONE);
        next("wait 50", x, 0);
        next("wait 51", x, 1);
        next("wait 52", x, 2);
        next("wait 53", x, 3);
        next("nothing left", x, NONE);
    }

    /** Promise 8: "Returns the number of these frames that are not idle frames." */
    private static void framesThatAreNotIdle() {
        Check.same("none of 1", new TelemetryLink().send(1), 0);
        Check.same("none of 60", new TelemetryLink().send(60), 0);
        for (int frames = 59; frames <= 61; frames++) {
            TelemetryLink x = Links.ofLength(8);
            for (int i = 0; i < 7; i++) {
                x.addPacket(1, 0, 50, 0);
            }
            x.addPacket(1, 0, 37, 0);
            x.addPacket(1, 0, 37, 0);
            x.addPacket(1, 0, 8 * frames - x.queue(1, 1) - 3, 0);
            Check.same("bytes of " + frames + " frames", x.queue(1, 1), 8 * frames);
            Check.same("frames of 60", x.send(60), Math.min(frames, 60));
            Check.same("bytes left", x.queue(1, 1), frames > 60 ? 8 : 0);
        }
        for (int channel = 0; channel < 4; channel++) {
            TelemetryLink one = new TelemetryLink();
            one.addPacket(channel, 0, 13, 0);
            Check.same("1 of 60", one.send(60), 1);
        }
    }

    /** "the number of the slot in which its last byte is sent minus the number of the slot that is
     * to come when it is added" */
    private static void latency0() {
        TelemetryLink x = new TelemetryLink();
        x.send(5);
        x.addPacket(0, 0, 13, 0);
        x.send(1);
        Check.same("sent in the slot that was to come", x.sent(0, 2), 0);
    }

    private static void latencyOfALaterSlot() {
        for (int wait : new int[] {1, 2, 49}) {
            int[] waits = {EMPTY, EMPTY, EMPTY, wait};
            TelemetryLink x = waiting(waits);
            x.setChannel(3, 0, 50, 0);
            x.send(1);
            Check.same("slots that it waited", x.sent(3, 2), wait);
        }
    }

    private static void latencyOfTheLastByte() {
        // 24 bytes end with the third frame, 25 bytes in the fourth.
        for (int bytes = 24; bytes <= 25; bytes++) {
            TelemetryLink x = Links.ofLength(8);
            x.send(2);
            x.addPacket(1, 0, bytes - 3, 0);
            x.send(2);
            Check.same("not yet", x.sent(1, 2), NONE);
            x.send(2);
            Check.same("last byte of " + bytes, x.sent(1, 2), bytes == 24 ? 2 : 3);
        }
    }

    /** "NONE if none was sent completely" */
    private static void latencyNone() {
        TelemetryLink x = Links.ofLength(8);
        for (int channel = 0; channel < 4; channel++) {
            Check.same("none", x.sent(channel, 2), NONE);
        }
        x.addPacket(2, 0, 50, 0);
        x.send(6);
        Check.same("five bytes are left", x.queue(2, 1), 5);
        Check.same("none yet", x.sent(2, 2), NONE);
        x.send(1);
        Check.same("sent", x.sent(2, 2), 6);
        for (int channel = 0; channel < 4; channel++) {
            Check.same("each by itself", x.sent(channel, 2), channel == 2 ? 6 : NONE);
        }
        Check.same("idle frames", x.sent(7, 2), NONE);
    }

    /** "greatest latency of a packet that is not idle" */
    private static void latencyOfNoIdlePacket() {
        TelemetryLink x = Links.ofLength(8);
        x.addPacket(0, 0, 2, 0);
        x.send(1);
        Check.same("the packet", x.sent(0, 2), 0);
        Check.same("a byte of the idle packet", x.queue(0, 1), 1);
        x.setChannel(0, 0, 50, 9);
        x.send(10);
        Check.same("it is sent later", x.queue(0, 1), 0);
        Check.same("it has no say", x.sent(0, 2), 0);
    }

    private static void greatestLatency() {
        TelemetryLink x = Links.ofLength(8);
        int[] holds = {2, 1, 3, 0, 3};
        int[] due = {2, 2, 3, 3, 3};
        for (int i = 0; i < holds.length; i++) {
            x.setChannel(0, 0, 50, holds[i]);
            x.addPacket(0, 0, 1, 0);
            x.send(4);
            Check.same("after " + holds[i], x.sent(0, 2), due[i]);
        }
        // The first one of two packets in a frame was added before the other.
        TelemetryLink two = waiting(4, EMPTY, EMPTY, EMPTY);
        two.addPacket(0, 0, 1, 0);
        two.send(1);
        Check.same("the older one", two.sent(0, 2), 4);
    }

    /** "number of bytes of idle packets that were sent (0 for channel 7)" */
    private static void idleBytes() {
        TelemetryLink x = Links.ofLength(8);
        x.addPacket(0, 0, 5, 0);
        x.send(1);
        Check.same("none", x.sent(0, 1), 0);
        x.addPacket(0, 0, 4, 0);
        x.send(1);
        Check.same("one of four bytes is sent", x.sent(0, 1), 1);
        x.send(1);
        Check.same("the others and an idle packet", x.sent(0, 1), 9);
        x.send(1);
        Check.same("an idle frame has none", x.sent(0, 1), 9);
        Check.same("channel 7", x.sent(7, 1), 0);
        Check.same("idle frames", x.sent(7, 0), 1);
        Check.same("frames", x.sent(0, 0), 3);
    }

    /** "They are numbered from 0 there, the first one being the one that was sent first." */
    private static void wireNumbers() {
        TelemetryLink x = Links.ofLength(8);
        Check.same("empty", x.wire(), 0);
        for (int i = 0; i < 60; i++) {
            x.send(1);
            Check.same("frames", x.wire(), i + 1);
            Check.same("the first one", x.frameByte(0, 0), 0);
            Check.same("the last one", x.frameByte(i, 0), i);
        }
        x.lose(59);
        Check.same("lost ones included", x.wire(), 60);
        x.receive(1);
        Check.same("one left the wire", x.wire(), 59);
        Check.same("the next one is the first", x.frameByte(0, 0), 1);
        x.receive(58);
        Check.same("the last one is the first", x.frameByte(0, 0), 59);
        x.send(1);
        Check.same("a new one behind it", x.frameByte(1, 0), 60);
        Check.same("it is still lost", x.lose(1), 2);
        x.receive(2);
        Check.same("empty again", x.wire(), 0);
        Check.same("a lost frame leaves the wire too", x.count(0), 59);
    }
}
