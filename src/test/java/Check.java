/** Counts the answers of a test that are not the ones that are due. */
final class Check {
    interface Call {
        long run();
    }

    static final Class<IllegalArgumentException> ARGUMENT = IllegalArgumentException.class;
    static final Class<IllegalStateException> STATE = IllegalStateException.class;
    static final Class<IndexOutOfBoundsException> INDEX = IndexOutOfBoundsException.class;

    private static int wrong = 0;
    private static int asked = 0;

    private Check() {
    }

    static void same(String what, long got, long want) {
        asked++;
        if (got != want) {
            wrong++;
            System.out.println(what + " answered " + got + ", due is " + want);
        }
    }

    /** The call must throw just this exception and leave the state as it was. */
    static void refuses(
            TelemetryLink link, Class<? extends RuntimeException> want, String what, Call call) {
        long before = link.digest();
        String got = "nothing";
        try {
            call.run();
        } catch (RuntimeException e) {
            got = e.getClass().getName();
        }
        asked++;
        if (!got.equals(want.getName())) {
            wrong++;
            System.out.println(what + " threw " + got + ", due is " + want.getName());
        }
        same(what + ", digest after it", link.digest(), before);
    }

    /** The call must save the state from before it; in the end it is done. */
    static long undoable(TelemetryLink link, String what, Call call) {
        // A full stack would lose a state by the call; this leaves two states at most.
        link.setClock(0, 0);
        long depth = link.undo();
        long before = link.digest();
        call.run();
        same(what + ", states left by undo", link.undo(), depth);
        same(what + ", digest after undo", link.digest(), before);
        return call.run();
    }

    /** The call must answer and change nothing, the undo stack included. */
    static void reads(TelemetryLink link, String what, Call call, long want) {
        long before = link.digest();
        same(what, call.run(), want);
        same(what + ", digest after it", link.digest(), before);
    }

    static void end() {
        System.out.println(wrong + " of " + asked + " answers are not as due");
        if (wrong != 0 || asked == 0) {
            System.exit(1);
        }
    }
}
