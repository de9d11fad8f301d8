/** Lets TelemetryLink and SlowLink answer the same long runs of calls. */
final class ModelTest {
    private static final int RUNS = 600;
    /** Nothing is promised of a link after so many calls. */
    private static final int CALLS = 512;
    /** The calls at the end of a run that read bytes of frames and packets. */
    private static final int READING = 60;
    private static final String[] NAMES = {
        "setFrameLength", "setChannel", "setClock", "addPacket", "queue", "nextChannel", "send",
        "slot", "sent", "wire", "frameByte", "corrupt", "repair", "lose", "receive", "count",
        "received", "application", "packets", "packet", "packetByte", "clock", "timePairs",
        "groundTime", "undo", "digest",
    };
    private static final int FRAME_BYTE = 10;
    private static final int PACKET_BYTE = 20;
    private static final int DIGEST = 25;
    /** How often each call comes, for each kind of run. */
    private static final int[][] WEIGHTS = {
        {2, 4, 2, 30, 3, 3, 18, 1, 3, 1, 3, 3, 3, 3, 18, 3, 3, 2, 1, 3, 3, 1, 1, 2, 4, 6},
        {1, 2, 2, 30, 1, 1, 14, 0, 1, 1, 1, 22, 22, 2, 12, 1, 1, 1, 1, 2, 2, 1, 1, 2, 2, 4},
        {6, 2, 6, 8, 1, 1, 30, 1, 1, 1, 1, 1, 1, 8, 40, 1, 1, 1, 1, 1, 1, 1, 1, 4, 10, 4},
        {1, 8, 1, 60, 4, 8, 24, 1, 2, 1, 1, 0, 0, 1, 20, 1, 1, 1, 1, 1, 1, 1, 1, 1, 1, 4},
    };
    private static final int[] EXTREMES = {
        Integer.MIN_VALUE, Integer.MAX_VALUE, -1, 0, 256, 60, 61, 46, -1000000001, 1000000001,
    };

    private static long seed;
    private static boolean fewWrong;
    /** How many calls of each kind ended normally, so that a run of refusals is seen. */
    private static final int[] ANSWERED = new int[NAMES.length];

    private ModelTest() {
    }

    public static void main(String[] args) {
        for (int run = 0; run < RUNS; run++) {
            oneRun(run);
        }
        for (int call = 0; call < NAMES.length; call++) {
            Check.same(NAMES[call] + " was answered often", Math.min(ANSWERED[call], 100), 100);
        }
        Check.end();
    }

    private static int below(int bound) {
        seed = seed * 6364136223846793005L + 1442695040888963407L;
        return (int) ((seed >>> 33) % bound);
    }

    private static void oneRun(int run) {
        seed = 977L * run + 5;
        below(2);
        fewWrong = run % 3 != 0;
        TelemetryLink link = new TelemetryLink();
        SlowLink slow = new SlowLink();
        boolean same = true;
        for (int i = 0; same && i < CALLS; i++) {
            int call = pick(WEIGHTS[run % WEIGHTS.length]);
            if (i >= CALLS - READING) {
                call = i % 2 == 0 ? FRAME_BYTE : PACKET_BYTE;
            } else if (i % 3 == 2) {
                call = DIGEST;
            }
            same = sameAnswer(link, slow, call, "run " + run + ", call " + i);
        }
        Check.same("run " + run, 0, 0);
    }

    private static boolean sameAnswer(TelemetryLink link, SlowLink slow, int call, String place) {
        long[] a = arguments(call, slow);
        String due = answerOf(() -> slowAnswer(slow, call, a));
        String got = answerOf(() -> answer(link, call, a));
        if (!due.startsWith("throws")) {
            ANSWERED[call]++;
        }
        boolean same = got.equals(due);
        if (!same) {
            String text = NAMES[call] + "(" + a[0] + ", " + a[1] + ", " + a[2] + ", " + a[3] + ")";
            Check.same(place + ": " + text + " answered " + got + ", not " + due, 0, 1);
        }
        return same;
    }

    private static int pick(int[] weights) {
        int sum = 0;
        for (int weight : weights) {
            sum += weight;
        }
        int rest = below(sum);
        int call = 0;
        while (rest >= weights[call]) {
            rest -= weights[call];
            call++;
        }
        return call;
    }

    private static int often(int small, int large) {
        return below(4) == 0 ? large : small;
    }

    private static long[] arguments(int call, SlowLink slow) {
        int frame = below(Math.max(1, slow.wire()));
        int packet = below(Math.max(1, slow.packets()));
        // The header of a frame, and the header of a packet in it, are hit more often.
        int place = often(below(8), below(24));
        long[] a = switch (NAMES[call]) {
            case "setFrameLength" -> new long[] {often(8 + below(6), 8 + below(33)), 0, 0, 0};
            case "setChannel" -> new long[] {
                below(4), below(often(3, 10)), below(often(8, 51)), below(often(5, 51))};
            case "setClock" -> new long[] {
                often(below(2001) - 1000, below(2) * 2000 - 1000), below(often(400, 100001)), 0, 0};
            case "addPacket" -> new long[] {below(4), below(15), 1 + below(often(20, 50)), below(256)};
            case "queue", "sent" -> new long[] {often(below(4), 7), below(3), 0, 0};
            case "send" -> new long[] {1 + below(often(4, 40)), 0, 0, 0};
            case "frameByte" -> new long[] {frame, below(47), 0, 0};
            case "corrupt" -> new long[] {frame, place, often(1 << below(8), 1 + below(255)), 0};
            case "receive" -> new long[] {1 + below(often(4, Math.max(1, slow.wire()))), 0, 0, 0};
            case "groundTime" -> new long[] {often(below(200000), below(2000000) - 1000000), 0, 0, 0};
            case "count" -> new long[] {below(6), 0, 0, 0};
            case "received" -> new long[] {below(4), below(4), 0, 0};
            case "application" -> new long[] {below(15), below(3), 0, 0};
            case "packet" -> new long[] {packet, below(5), 0, 0};
            case "packetByte" -> new long[] {packet, below(often(8, 60)), 0, 0};
            default -> new long[] {frame, 0, 0, 0};
        };
        if (below(fewWrong ? 40 : 8) == 0) {
            int which = below(4);
            a[which] = often((int) a[which] + below(3) - 1, EXTREMES[below(EXTREMES.length)]);
        }
        return a;
    }

    private static String answerOf(Check.Call call) {
        try {
            return Long.toString(call.run());
        } catch (RuntimeException e) {
            return "throws." + e.getClass().getSimpleName();
        }
    }

    private static long answer(TelemetryLink x, int call, long[] a) {
        int a0 = (int) a[0];
        int a1 = (int) a[1];
        int a2 = (int) a[2];
        int a3 = (int) a[3];
        return switch (NAMES[call]) {
            case "setFrameLength" -> x.setFrameLength(a0);
            case "setChannel" -> x.setChannel(a0, a1, a2, a3);
            case "setClock" -> x.setClock(a0, a1);
            case "addPacket" -> x.addPacket(a0, a1, a2, a3);
            case "queue" -> x.queue(a0, a1);
            case "nextChannel" -> x.nextChannel();
            case "send" -> x.send(a0);
            case "slot" -> x.slot();
            case "sent" -> x.sent(a0, a1);
            case "wire" -> x.wire();
            case "frameByte" -> x.frameByte(a0, a1);
            case "corrupt" -> x.corrupt(a0, a1, a2);
            case "repair" -> x.repair(a0);
            case "lose" -> x.lose(a0);
            case "receive" -> x.receive(a0);
            case "count" -> x.count(a0);
            case "received" -> x.received(a0, a1);
            case "application" -> x.application(a0, a1);
            case "packets" -> x.packets();
            case "packet" -> x.packet(a0, a1);
            case "packetByte" -> x.packetByte(a0, a1);
            case "clock" -> x.clock();
            case "timePairs" -> x.timePairs();
            case "groundTime" -> x.groundTime(a[0]);
            case "undo" -> x.undo();
            default -> x.digest();
        };
    }

    private static long slowAnswer(SlowLink x, int call, long[] a) {
        int a0 = (int) a[0];
        int a1 = (int) a[1];
        int a2 = (int) a[2];
        int a3 = (int) a[3];
        return switch (NAMES[call]) {
            case "setFrameLength" -> x.setFrameLength(a0);
            case "setChannel" -> x.setChannel(a0, a1, a2, a3);
            case "setClock" -> x.setClock(a0, a1);
            case "addPacket" -> x.addPacket(a0, a1, a2, a3);
            case "queue" -> x.queue(a0, a1);
            case "nextChannel" -> x.nextChannel();
            case "send" -> x.send(a0);
            case "slot" -> x.slot();
            case "sent" -> x.sent(a0, a1);
            case "wire" -> x.wire();
            case "frameByte" -> x.frameByte(a0, a1);
            case "corrupt" -> x.corrupt(a0, a1, a2);
            case "repair" -> x.repair(a0);
            case "lose" -> x.lose(a0);
            case "receive" -> x.receive(a0);
            case "count" -> x.count(a0);
            case "received" -> x.received(a0, a1);
            case "application" -> x.application(a0, a1);
            case "packets" -> x.packets();
            case "packet" -> x.packet(a0, a1);
            case "packetByte" -> x.packetByte(a0, a1);
            case "clock" -> x.clock();
            case "timePairs" -> x.timePairs();
            case "groundTime" -> x.groundTime(a[0]);
            case "undo" -> x.undo();
            default -> x.digest();
        };
    }
}
