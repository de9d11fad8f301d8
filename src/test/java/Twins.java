/** Pairs of links with the same past, of which one makes a call that must leave no trace. */
final class Twins {
    interface Past {
        TelemetryLink make();
    }

    interface Step {
        long on(TelemetryLink x);
    }

    private static final int FRAMES_READ = 6;
    private static final int LONGEST_FRAME = 46;

    private Twins() {
    }

    /** The call must throw just this exception, and all must go on as if it had not been made. */
    static void refused(
            String what, Past past, Class<? extends RuntimeException> want, Step call) {
        TelemetryLink x = past.make();
        throwing(what, want, x, call);
        TelemetryLink twin = past.make();
        sameState(what, x, twin);
        sameFuture(what, x, twin);
        x = past.make();
        answerOf(x, call);
        sameSavedStates(what, x, past.make());
    }

    /** The call must be taken back by undo, and all must go on as if it had not been made. */
    static void takenBack(String what, Past past, Step call) {
        // The call may drop the oldest saved state. One more call of each twin makes their stacks
        // the same again; there are two such calls, as one of them could cover what undo missed.
        takenBack(what, past, call, x -> x.setClock(0, 0));
        takenBack(what, past, call, x -> x.setChannel(0, 0, 50, 0));
    }

    private static void takenBack(String what, Past past, Step call, Step closing) {
        for (int part = 0; part < 2; part++) {
            TelemetryLink x = past.make();
            TelemetryLink twin = past.make();
            call.on(x);
            x.undo();
            closing.on(x);
            closing.on(twin);
            if (part == 0) {
                sameState(what, x, twin);
                sameFuture(what, x, twin);
            } else {
                sameSavedStates(what, x, twin);
            }
        }
    }

    /** The call must throw just this exception. */
    static void throwing(
            String what, Class<? extends RuntimeException> want, TelemetryLink x, Step call) {
        String got = answerOf(x, call);
        if (got.equals("throws " + want.getSimpleName())) {
            Check.same(what, 0, 0);
        } else {
            Check.same(what + ": " + got + " instead of " + want.getSimpleName(), 1, 0);
        }
    }

    static String answerOf(TelemetryLink x, Step call) {
        try {
            return Long.toString(call.on(x));
        } catch (RuntimeException e) {
            return "throws " + e.getClass().getSimpleName();
        }
    }

    private static void same(String what, TelemetryLink x, TelemetryLink twin, Step call) {
        String got = answerOf(x, call);
        String due = answerOf(twin, call);
        Check.same(what + ": " + got + ", the twin " + due, got.equals(due) ? 0 : 1, 0);
    }

    /** The digest leaves out the bytes of frames and packets. */
    static void sameState(String what, TelemetryLink x, TelemetryLink twin) {
        same(what + ", digest after it", x, twin, TelemetryLink::digest);
        for (int i = 0; i < Math.min(FRAMES_READ, twin.wire()); i++) {
            int frame = i;
            for (int b = 0; b <= LONGEST_FRAME; b++) {
                int index = b;
                same(what + ", frame byte after it", x, twin, y -> y.frameByte(frame, index));
            }
        }
        for (int i = 0; i < twin.packets(); i++) {
            int index = i;
            same(what + ", packet byte after it", x, twin, y -> y.packetByte(index, 0));
        }
    }

    /** What no question shows at once: sequence counts, what waits in the queues, latencies. */
    private static void sameFuture(String what, TelemetryLink x, TelemetryLink twin) {
        String later = what + ", later on";
        for (int i = 0; i < 15; i++) {
            int application = i;
            same(later, x, twin, y -> y.addPacket(application % 4, application, 1 + application, 9));
        }
        if (twin.wire() > 0) {
            same(later, x, twin, y -> y.receive(Math.min(y.wire(), 60)));
            same(later, x, twin, TelemetryLink::digest);
        }
        for (int i = 0; i < 2; i++) {
            same(later, x, twin, y -> y.send(30));
            same(later, x, twin, y -> y.frameByte(29, 2));
            same(later, x, twin, TelemetryLink::digest);
            same(later, x, twin, y -> y.receive(30));
            same(later, x, twin, TelemetryLink::digest);
        }
        for (int i = 0; i < twin.packets(); i++) {
            int index = i;
            same(later, x, twin, y -> y.packetByte(index, y.packet(index, 3) - 1));
        }
    }

    private static void sameSavedStates(String what, TelemetryLink x, TelemetryLink twin) {
        for (int i = 0; i < 4; i++) {
            same(what + ", undo after it", x, twin, TelemetryLink::undo);
            same(what + ", digest after undo", x, twin, TelemetryLink::digest);
        }
    }
}
