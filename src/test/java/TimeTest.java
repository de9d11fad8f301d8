/** Promises 23 to 25: clock, timePairs, groundTime. */
final class TimeTest {
    private TimeTest() {
    }

    public static void main(String[] args) {
        clocks();
        pairs();
        pairsOfChangedFrames();
        settingsAtTheTimeOfSending();
        groundTimes();
        clockThatGoesBack();
        clockThatStands();
        refusals();
        Check.end();
    }

    private static void clocks() {
        TelemetryLink x = new TelemetryLink();
        x.send(7);
        Check.reads(x, "23 without drift", x::clock, 7000);
        x.setClock(5, 0);
        Check.reads(x, "23 drift 5", x::clock, 7002);
        x.setClock(-5, 0);
        Check.reads(x, "23 drift -5 is rounded down", x::clock, 6997);
        x.setClock(-1, 0);
        Check.reads(x, "23 drift -1", x::clock, 6999);
        x.setClock(1000, 0);
        Check.reads(x, "23 drift 1000", x::clock, 7437);
        x.setClock(-1000, 0);
        Check.reads(x, "23 drift -1000", x::clock, 6562);
        x.setClock(16, 100000);
        Check.reads(x, "23 the delay is of no account", x::clock, 7007);
    }

    /** Sends n frames of channel 0 and receives them. */
    private static void frames(TelemetryLink x, int n) {
        for (int i = 0; i < n; i++) {
            x.addPacket(0, 0, 13, 0);
            x.send(1);
            x.receive(1);
        }
    }

    private static void pairs() {
        TelemetryLink x = new TelemetryLink();
        x.addPacket(1, 0, 13, 0);
        x.send(3);
        x.receive(3);
        Check.reads(x, "24 not by channels 1 and 7", x::timePairs, 0);
        frames(x, 1);
        Check.reads(x, "24 channel count 0", x::timePairs, 1);
        frames(x, 7);
        Check.reads(x, "24 channel counts 1 to 7", x::timePairs, 1);
        frames(x, 1);
        Check.reads(x, "24 channel count 8", x::timePairs, 2);
        Check.same("25 slots 3 and 11", x.groundTime(3000), 3250);
        x.setClock(16, 1250);
        frames(x, 8);
        Check.reads(x, "24 two are kept", x::timePairs, 2);
        // Slot 11: clock 11000, ground 11250. Slot 19: clock 19019, ground 20250.
        Check.same("25 the newer one of three", x.groundTime(19019), 20250);
        Check.same("25 the second one", x.groundTime(11000), 11250);
        x.undo();
        Check.reads(x, "24 two before", x::timePairs, 2);
        Check.same("25 the newer one before", x.groundTime(11000), 11250);
        Check.same("25 the older one before", x.groundTime(3000), 3250);
        TelemetryLink y = new TelemetryLink();
        y.addPacket(0, 0, 13, 0);
        y.addPacket(0, 0, 13, 0);
        y.send(2);
        y.corrupt(0, 10, 1);
        y.receive(2);
        Check.reads(y, "24 not by a bad frame", y::timePairs, 0);
        y.undo();
        y.undo();
        y.lose(0);
        y.receive(2);
        Check.reads(y, "24 not by a lost frame", y::timePairs, 0);
    }

    private static void pairsOfChangedFrames() {
        TelemetryLink x = new TelemetryLink();
        x.addPacket(0, 0, 13, 0);
        x.addPacket(0, 0, 13, 0);
        x.send(2);
        x.corrupt(0, 1, 1);
        x.repair(0);
        x.receive(1);
        Check.same("24 a frame of channel 0 made one of channel 1", x.timePairs(), 0);
        x.corrupt(0, 2, 1 ^ 16);
        x.repair(0);
        x.receive(1);
        Check.same("24 channel count made 16", x.timePairs(), 1);
        x.send(1);
        x.corrupt(0, 1, 7);
        x.corrupt(0, 2, 248);
        x.repair(0);
        x.receive(1);
        Check.same("24 an idle frame made one of channel 0", x.timePairs(), 2);
        Check.same("25 slots 1 and 2", x.groundTime(2000), 2250);
        Check.same("25 between them", x.groundTime(1500), 1750);
    }

    private static void settingsAtTheTimeOfSending() {
        TelemetryLink x = new TelemetryLink();
        x.setClock(16, 100);
        x.send(1);
        x.addPacket(0, 0, 13, 0);
        x.send(1);
        x.setClock(1000, 7);
        x.receive(2);
        x.setClock(16, 300);
        frames(x, 8);
        x.setClock(0, 0);
        // Slot 1: clock 1001, ground 1100. Slot 9: clock 9009, ground 9300.
        Check.same("25 the newer pair", x.groundTime(9009), 9300);
        Check.same("25 the older pair", x.groundTime(1001), 1100);
        Check.same("25 one more", x.groundTime(9010), 9301);
        Check.same("25 one less is rounded down", x.groundTime(9008), 9298);
        TelemetryLink y = new TelemetryLink();
        y.setClock(16, 100);
        y.addPacket(0, 0, 13, 0);
        y.send(1);
        y.receive(1);
        frames(y, 7);
        y.addPacket(0, 0, 13, 0);
        y.send(1);
        y.setClock(500, 500);
        y.undo();
        y.receive(1);
        // Slot 0: clock 0, ground 100. Slot 8: clock 8008, ground 8100.
        Check.same("25 after undo, the newer pair", y.groundTime(8008), 8100);
        Check.same("25 after undo, the older pair", y.groundTime(0), 100);
    }

    private static void groundTimes() {
        TelemetryLink x = new TelemetryLink();
        x.setClock(7, 1000);
        frames(x, 9);
        // Slot 0: clock 0, ground 1000. Slot 8: clock 8003, ground 9000.
        Check.reads(x, "25 clock 0", () -> x.groundTime(0), 1000);
        Check.reads(x, "25 clock 8003", () -> x.groundTime(8003), 9000);
        Check.reads(x, "25 clock 1", () -> x.groundTime(1), 1000);
        Check.reads(x, "25 clock -1", () -> x.groundTime(-1), 999);
        long most = 1000000000L;
        Check.reads(x, "25 greatest", () -> x.groundTime(most),
                9000 + Math.floorDiv((most - 8003) * 8000, 8003L));
        Check.reads(x, "25 least", () -> x.groundTime(-most),
                9000 + Math.floorDiv((-most - 8003) * 8000, 8003L));
    }

    private static void clockThatGoesBack() {
        TelemetryLink x = new TelemetryLink();
        x.send(60);
        x.receive(60);
        x.send(40);
        x.receive(40);
        x.setClock(1000, 0);
        frames(x, 1);
        x.setClock(-1000, 0);
        frames(x, 8);
        // Slot 100: clock 106250, ground 100000. Slot 108: clock 101250, ground 108000.
        Check.same("25 newer", x.groundTime(101250), 108000);
        Check.same("25 older", x.groundTime(106250), 100000);
        Check.same("25 a negative divisor is rounded down", x.groundTime(101251), 107998);
        Check.same("25 and on the other side", x.groundTime(101249), 108001);
    }

    private static void clockThatStands() {
        TelemetryLink x = new TelemetryLink();
        x.send(60);
        x.receive(60);
        x.setClock(1000, 0);
        frames(x, 1);
        x.setClock(-1000, 0);
        frames(x, 8);
        // Slots 60 and 68: 60000 + 3750 and 68000 - 4250.
        Check.same("24 two pairs", x.timePairs(), 2);
        Check.refuses(x, Check.STATE, "25 one clock value", () -> x.groundTime(63750));
        Check.refuses(x, Check.ARGUMENT, "25 and out of range", () -> x.groundTime(1000000001L));
    }

    private static void refusals() {
        TelemetryLink x = new TelemetryLink();
        long[] wrong = {1000000001L, -1000000001L, Long.MIN_VALUE, Long.MAX_VALUE, 1L << 32};
        for (long clock : wrong) {
            Check.refuses(x, Check.ARGUMENT, "25 clock " + clock, () -> x.groundTime(clock));
        }
        Check.refuses(x, Check.STATE, "25 no pair", () -> x.groundTime(0));
        frames(x, 1);
        Check.refuses(x, Check.STATE, "25 one pair", () -> x.groundTime(0));
        frames(x, 8);
        x.groundTime(0);
        for (long clock : wrong) {
            Check.refuses(x, Check.ARGUMENT, "25 pairs, clock " + clock, () -> x.groundTime(clock));
        }
        TelemetryLink late = new TelemetryLink();
        late.send(10);
        late.receive(10);
        frames(late, 1);
        Check.refuses(late, Check.STATE, "25 one pair that is not 0", () -> late.groundTime(0));
    }
}
