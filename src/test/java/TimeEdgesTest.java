/** The edges that the section TIME names, for the promises 4 and 23 to 25. */
final class TimeEdgesTest {
    private TimeEdgesTest() {
    }

    public static void main(String[] args) {
        clockAtSlot0();
        driftOfSixteenths();
        driftAtFirst();
        negativeDriftIsRoundedDown();
        greatestAndLeastDrift();
        clockOfTheLastSlots();
        delayAtFirst();
        leastAndGreatestDelay();
        driftAtTheTimeOfSending();
        delayAtTheTimeOfSending();
        pairsByMultiplesOf8();
        pairAfter255();
        pairsOfChannel0Alone();
        pairsOfGoodFramesAlone();
        onePairOfEachFrame();
        latestTwoPairs();
        pairsAreKeptByUndo();
        groundTimeIsRoundedDown();
        groundTimeOfAClockThatGoesBack();
        groundTimeThatGoesBack();
        groundTimeOfLargeProducts();
        Check.end();
    }

    /** A link with these slots behind it, and with the clock's settings. */
    private static TelemetryLink after(int slots, int drift, int delay) {
        TelemetryLink x = Links.ofLength(8);
        Links.idleFrames(x, slots);
        x.setClock(drift, delay);
        return x;
    }

    /** Receives one frame of channel 0 with this channel count, with the settings of now. */
    private static void pair(TelemetryLink x, int count) {
        Links.receive(x, 0, count, 255);
    }

    /** "The clock on board shows 1000 * s + floor(s * drift / 16) at the beginning of slot s" */
    private static void clockAtSlot0() {
        for (int drift : new int[] {-1000, -1, 0, 1, 1000}) {
            Check.same("slot 0, drift " + drift, after(0, drift, 250).clock(), 0);
        }
    }

    private static void driftOfSixteenths() {
        long[] due = {15000, 16001, 17001};
        for (int i = 0; i < 3; i++) {
            Check.same("drift 1, slot " + (15 + i), after(15 + i, 1, 0).clock(), due[i]);
        }
        Check.same("drift 15, slot 1", after(1, 15, 0).clock(), 1000);
        Check.same("drift 16, slot 1", after(1, 16, 0).clock(), 1001);
        Check.same("drift 17, slot 1", after(1, 17, 0).clock(), 1001);
    }

    /** "0 at first" */
    private static void driftAtFirst() {
        TelemetryLink x = new TelemetryLink();
        Links.idleFrames(x, 16);
        Check.same("without drift", x.clock(), 16000);
        Check.same("previous drift", x.setClock(1, 0), 0);
    }

    private static void negativeDriftIsRoundedDown() {
        long[] due = {999, 1999, 14999, 15999, 16999 - 1};
        int[] slots = {1, 2, 15, 16, 17};
        for (int i = 0; i < slots.length; i++) {
            Check.same("drift -1, slot " + slots[i], after(slots[i], -1, 0).clock(), due[i]);
        }
        Check.same("drift -16, slot 1", after(1, -16, 0).clock(), 999);
        Check.same("drift -17, slot 1", after(1, -17, 0).clock(), 998);
    }

    /** "with a drift from -1000 to 1000" */
    private static void greatestAndLeastDrift() {
        Check.same("drift 1000, slot 1", after(1, 1000, 0).clock(), 1062);
        Check.same("drift -1000, slot 1", after(1, -1000, 0).clock(), 937);
        Check.same("drift 1000, slot 16", after(16, 1000, 0).clock(), 17000);
        Check.same("drift -1000, slot 16", after(16, -1000, 0).clock(), 15000);
        TelemetryLink x = after(16, 1000, 0);
        Check.same("previous drift", x.setClock(-1000, 0), 1000);
        Check.same("previous drift", x.setClock(0, 0), -1000);
    }

    /** "An object is used for at most 512 calls": as many slots as they can reach. */
    private static void clockOfTheLastSlots() {
        TelemetryLink x = new TelemetryLink();
        x.setClock(1000, 100000);
        for (int i = 0; i < 254; i++) {
            x.send(60);
            x.receive(60);
        }
        Check.same("call 510", x.slot(), 15240);
        Check.same("call 511", x.clock(), 15240000L + 952500);
        Check.same("call 512", x.count(0), 15240);
        TelemetryLink y = new TelemetryLink();
        y.setClock(-1000, 0);
        for (int i = 0; i < 255; i++) {
            y.send(60);
            y.receive(60);
        }
        Check.same("call 512", y.clock(), 15300000L - 956250);
    }

    /** Pairs of the slots s and s + 1, with another delay: the delays show in the ground times. */
    private static TelemetryLink twoDelays(int first, int second) {
        TelemetryLink x = after(5, 0, first);
        pair(x, 0);
        x.setClock(0, second);
        pair(x, 8);
        return x;
    }

    /** "with a delay from 0 to 100000 (250 at first)" */
    private static void delayAtFirst() {
        TelemetryLink x = Links.ofLength(8);
        pair(x, 0);
        pair(x, 8);
        Check.same("slot 0", x.groundTime(0), 250);
        Check.same("slot 1", x.groundTime(1000), 1250);
    }

    private static void leastAndGreatestDelay() {
        TelemetryLink x = twoDelays(0, 100000);
        Check.same("delay 0", x.groundTime(5000), 5000);
        Check.same("delay 100000", x.groundTime(6000), 106000);
        TelemetryLink y = twoDelays(1, 99999);
        Check.same("delay 1", y.groundTime(5000), 5001);
        Check.same("delay 99999", y.groundTime(6000), 105999);
    }

    /** "Both are those at the time of sending." */
    private static void driftAtTheTimeOfSending() {
        TelemetryLink x = after(16, 16, 0);
        x.send(2);
        Links.setFrame(x, 0, 0, 0, 255);
        Links.setFrame(x, 1, 0, 8, 255);
        x.send(5);
        x.setClock(-1000, 0);
        x.receive(2);
        // Slots 16 and 17, with one more a slot.
        Check.same("older", x.groundTime(16016), 16000);
        Check.same("newer", x.groundTime(17017), 17000);
    }

    private static void delayAtTheTimeOfSending() {
        TelemetryLink x = after(16, 0, 7);
        x.send(2);
        Links.setFrame(x, 0, 0, 0, 255);
        Links.setFrame(x, 1, 0, 8, 255);
        x.setClock(0, 100000);
        x.receive(1);
        x.setClock(0, 50000);
        x.receive(1);
        Check.same("older", x.groundTime(16000), 16007);
        Check.same("newer", x.groundTime(17000), 17007);
    }

    /** "With each good frame of channel 0 whose channel count is a multiple of 8" */
    private static void pairsByMultiplesOf8() {
        for (int part = 0; part < 256; part += 32) {
            TelemetryLink x = Links.ofLength(8);
            x.send(32);
            for (int i = 0; i < 32; i++) {
                Links.setFrame(x, i, 0, part + i, 255);
            }
            int last = -1;
            int before = -1;
            for (int count = part; count < part + 32; count++) {
                x.receive(1);
                if (count % 8 == 0) {
                    before = last;
                    last = count - part;
                }
                Check.same("pairs up to " + count, x.timePairs(), before < 0 ? 1 : 2);
                if (before >= 0) {
                    Check.same("newer one", x.groundTime(1000L * last), 1000L * last + 250);
                }
            }
            Check.same("older one", x.groundTime(1000L * before), 1000L * before + 250);
        }
    }

    private static void pairAfter255() {
        TelemetryLink x = Links.ofLength(8);
        for (int i = 0; i < 32; i++) {
            x.addPacket(0, 0, 29, 0);
            x.addPacket(0, 0, 29, 0);
            x.send(8);
            x.receive(8);
        }
        // The frame of the count 255 was the one of slot 255.
        x.setClock(0, 1000);
        x.addPacket(0, 0, 13, 0);
        x.send(1);
        Check.same("count", x.frameByte(0, 2), 0);
        x.receive(1);
        Check.same("the pair of the count 0", x.groundTime(256000), 257000);
        Check.same("the pair of the count 248", x.groundTime(248000), 248250);
        x.send(1);
        x.receive(1);
        Check.same("not of the count 1", x.groundTime(248000), 248250);
    }

    private static void pairsOfChannel0Alone() {
        TelemetryLink x = Links.ofLength(8);
        for (int channel : new int[] {1, 2, 3, 7}) {
            Links.receive(x, channel, 0, 255);
            Links.receive(x, channel, 8, 255);
            Check.same("channel " + channel, x.timePairs(), 0);
        }
        pair(x, 8);
        Check.same("channel 0", x.timePairs(), 1);
    }

    private static void pairsOfGoodFramesAlone() {
        TelemetryLink x = Links.ofLength(8);
        x.send(3);
        for (int i = 0; i < 3; i++) {
            Links.setFrame(x, i, 0, 8 * i, 255);
        }
        x.lose(0);
        x.corrupt(1, 13, 1);
        x.receive(2);
        Check.same("lost and bad", x.timePairs(), 0);
        x.receive(1);
        Check.same("good", x.timePairs(), 1);
    }

    private static void onePairOfEachFrame() {
        TelemetryLink x = Links.ofLength(8);
        pair(x, 8);
        Check.same("first frame", x.timePairs(), 1);
        pair(x, 8);
        Check.same("the same count again", x.timePairs(), 2);
        Check.same("older", x.groundTime(0), 250);
        Check.same("newer", x.groundTime(1000), 1250);
    }

    /** "the latest 2 pairs are kept" */
    private static void latestTwoPairs() {
        TelemetryLink x = Links.ofLength(8);
        Check.same("none", x.timePairs(), 0);
        int[] delays = {100, 20, 3000, 7, 50000};
        for (int i = 0; i < delays.length; i++) {
            x.setClock(0, delays[i]);
            pair(x, 8 * i);
            Check.same("pairs after " + (i + 1), x.timePairs(), Math.min(i + 1, 2));
            if (i > 0) {
                Check.same("older", x.groundTime(1000L * (i - 1)), 1000L * (i - 1) + delays[i - 1]);
                Check.same("newer", x.groundTime(1000L * i), 1000L * i + delays[i]);
            }
        }
    }

    private static void pairsAreKeptByUndo() {
        TelemetryLink x = Links.ofLength(8);
        x.addPacket(0, 0, 13, 0);
        x.send(1);
        x.receive(1);
        Check.same("one", x.timePairs(), 1);
        x.undo();
        Check.same("none", x.timePairs(), 0);
        // The frame's times come back with the frame.
        x.setClock(1000, 77);
        x.receive(1);
        pair(x, 8);
        Check.same("slot 0", x.groundTime(0), 250);
        Check.same("slot 1", x.groundTime(1062), 1077);
    }

    /** "g2 + floor((x - c2) * (g2 - g1) / (c2 - c1))" */
    private static void groundTimeIsRoundedDown() {
        // Slots 0 and 16: the clock gains 1 in the 16 slots.
        TelemetryLink x = after(0, 0, 0);
        pair(x, 0);
        Links.idleFrames(x, 15);
        x.setClock(1, 0);
        pair(x, 8);
        long[] clocks = {0, 16001, 16000, 16002, 1, -1, 8000, 8001, 32002, -16001};
        long[] due = {0, 16000, 15999, 16000, 0, -1, 7999, 8000, 32000, -16000};
        for (int i = 0; i < clocks.length; i++) {
            Check.same("clock " + clocks[i], x.groundTime(clocks[i]), due[i]);
        }
    }

    private static void groundTimeOfAClockThatGoesBack() {
        TelemetryLink x = after(64, 1000, 0);
        pair(x, 0);
        x.setClock(-1000, 0);
        pair(x, 8);
        // Slot 64: 64000 + 4000. Slot 65: 65000 - 4063. The difference is -7063.
        long[] clocks = {68000, 60937, 60936, 60938, 53874, 60937 + 7, 60937 + 8, 60937 - 7};
        long[] due = {64000, 65000, 65000, 64999, 66000, 64999, 64998, 65000};
        for (int i = 0; i < clocks.length; i++) {
            Check.same("clock " + clocks[i], x.groundTime(clocks[i]), due[i]);
        }
    }

    private static void groundTimeThatGoesBack() {
        TelemetryLink x = twoDelays(100000, 0);
        // Slot 5: 105000. Slot 6: 6000. A clock's step of 1000 goes with -99000.
        Check.same("older", x.groundTime(5000), 105000);
        Check.same("newer", x.groundTime(6000), 6000);
        Check.same("between", x.groundTime(5500), 55500);
        Check.same("behind", x.groundTime(6001), 5901);
        TelemetryLink same = twoDelays(1000, 0);
        Check.same("the same ground time", same.groundTime(-1000000000L), 6000);
        Check.same("the same ground time", same.groundTime(1000000000L), 6000);
    }

    private static void groundTimeOfLargeProducts() {
        // Slots 61 and 69 of RefusalsTest, with clock values that differ by 1, and 8000 + 100000.
        TelemetryLink x = after(61, 993, 0);
        pair(x, 0);
        Links.idleFrames(x, 7);
        x.setClock(-977, 100000);
        pair(x, 8);
        for (long clock : new long[] {-1000000000L, 1000000000L}) {
            Check.same("clock " + clock, x.groundTime(clock), 169000 + (clock - 64786) * 108000);
        }
    }
}
