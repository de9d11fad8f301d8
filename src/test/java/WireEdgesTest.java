/** The edges of the promises 11 to 15: what can be done to frames on the wire. */
final class WireEdgesTest {
    private WireEdgesTest() {
    }

    public static void main(String[] args) {
        bytesOfALostFrame();
        leastAndGreatestMask();
        bytesOf0And255();
        sameMaskTwice();
        corruptChangesOneByte();
        corruptALostFrame();
        repairARightFrame();
        repairEachByte();
        repairShortestAndLongestFrame();
        repairChangesTheCheckValueAlone();
        repairALostFrame();
        loseTheFirstAndTheLast();
        loseAgain();
        loseAll();
        lostFramesThatLeft();
        Check.end();
    }

    private static int checkOf(TelemetryLink x, int frame, int size) {
        return x.frameByte(frame, size - 2) * 256 + x.frameByte(frame, size - 1);
    }

    /** "Returns a byte of a frame on the wire, also of a lost one." */
    private static void bytesOfALostFrame() {
        TelemetryLink x = Links.ofLength(8);
        x.addPacket(1, 2, 5, 3);
        x.send(1);
        int[] due = {0, 1, 0, 0, 2, 0, 5, 3, 10, 17, 24, 31};
        x.lose(0);
        for (int index = 0; index < due.length; index++) {
            Check.same("byte " + index, x.frameByte(0, index), due[index]);
        }
        x.frameByte(0, 13);
        Twins.throwing("byte 14", Check.INDEX, x, y -> y.frameByte(0, 14));
    }

    /** "it becomes its XOR with a mask", 1 to 255 */
    private static void leastAndGreatestMask() {
        TelemetryLink x = Links.ofLength(8);
        x.send(1);
        Check.same("1", x.corrupt(0, 4, 1), 84);
        Check.same("byte", x.frameByte(0, 4), 84);
        Check.same("2", x.corrupt(0, 4, 2), 86);
        Check.same("128", x.corrupt(0, 4, 128), 214);
        Check.same("254", x.corrupt(0, 4, 254), 40);
        Check.same("255", x.corrupt(0, 4, 255), 215);
        Check.same("byte", x.frameByte(0, 4), 215);
    }

    private static void bytesOf0And255() {
        TelemetryLink x = Links.ofLength(8);
        x.send(1);
        Check.same("0 becomes 255", x.corrupt(0, 0, 255), 255);
        Check.same("255 becomes 0", x.corrupt(0, 0, 255), 0);
        Check.same("0 becomes 1", x.corrupt(0, 0, 1), 1);
        Check.same("1 becomes 0", x.corrupt(0, 0, 1), 0);
        Check.same("0 becomes 128", x.corrupt(0, 0, 128), 128);
        Check.same("byte", x.frameByte(0, 0), 128);
    }

    private static void sameMaskTwice() {
        TelemetryLink x = Links.ofLength(8);
        x.send(14);
        for (int index = 0; index < 14; index++) {
            int byteBefore = x.frameByte(index, index);
            x.corrupt(index, index, 170);
            Check.same("back again", x.corrupt(index, index, 170), byteBefore);
        }
        x.receive(14);
        Check.same("all are good", x.count(0), 14);
    }

    private static void corruptChangesOneByte() {
        for (int index = 0; index < 14; index++) {
            TelemetryLink x = Links.ofLength(8);
            TelemetryLink twin = Links.ofLength(8);
            x.send(3);
            twin.send(3);
            x.corrupt(1, index, 255);
            for (int frame = 0; frame < 3; frame++) {
                for (int i = 0; i < 14; i++) {
                    int mask = frame == 1 && i == index ? 255 : 0;
                    Check.same("byte", x.frameByte(frame, i), twin.frameByte(frame, i) ^ mask);
                }
            }
        }
    }

    private static void corruptALostFrame() {
        TelemetryLink x = Links.ofLength(8);
        x.send(2);
        x.lose(1);
        Check.same("new byte", x.corrupt(1, 4, 255), 170);
        Check.same("still lost", x.lose(1), 1);
        x.receive(2);
        Check.same("good", x.count(0), 1);
        Check.same("bad", x.count(1), 0);
    }

    /** "Sets the check value of a frame on the wire so that it is right." */
    private static void repairARightFrame() {
        TelemetryLink x = Links.ofLength(8);
        x.send(1);
        int check = checkOf(x, 0, 14);
        Check.same("answer", x.repair(0), check);
        Check.same("bytes", checkOf(x, 0, 14), check);
        x.receive(1);
        Check.same("good", x.count(0), 1);
    }

    private static void repairEachByte() {
        TelemetryLink x = Links.ofLength(8);
        x.send(14);
        for (int index = 0; index < 14; index++) {
            int before = checkOf(x, index, 14);
            x.corrupt(index, index, 1);
            int check = x.repair(index);
            Check.same("bytes", checkOf(x, index, 14), check);
            Check.same("another value", check == before ? 1 : 0, index >= 12 ? 1 : 0);
        }
        x.receive(14);
        // The channel 6, by a change of byte 1, is bad in any case.
        Check.same("good", x.count(0), 13);
        Check.same("bad", x.count(1), 1);
    }

    private static void repairShortestAndLongestFrame() {
        for (int length = 8; length <= 40; length++) {
            TelemetryLink x = Links.ofLength(length);
            x.send(1);
            x.corrupt(0, length + 3, 255);
            x.corrupt(0, length + 4, 255);
            x.corrupt(0, length + 5, 255);
            x.setFrameLength(48 - length);
            int check = x.repair(0);
            Check.same("bytes", checkOf(x, 0, length + 6), check);
            x.receive(1);
            Check.same("good", x.count(0), 1);
        }
    }

    private static void repairChangesTheCheckValueAlone() {
        TelemetryLink x = Links.ofLength(8);
        TelemetryLink twin = Links.ofLength(8);
        x.send(3);
        twin.send(3);
        x.corrupt(1, 7, 99);
        x.repair(1);
        for (int frame = 0; frame < 3; frame++) {
            for (int i = 0; i < (frame == 1 ? 12 : 14); i++) {
                int mask = frame == 1 && i == 7 ? 99 : 0;
                Check.same("byte", x.frameByte(frame, i), twin.frameByte(frame, i) ^ mask);
            }
        }
    }

    private static void repairALostFrame() {
        TelemetryLink x = Links.ofLength(8);
        x.send(2);
        x.lose(0);
        x.corrupt(0, 4, 1);
        Check.same("answer", x.repair(0), checkOf(x, 0, 14));
        Check.same("still lost", x.lose(0), 1);
        x.receive(2);
        Check.same("good", x.count(0), 1);
    }

    /** "Returns the number of frames on the wire that are lost." */
    private static void loseTheFirstAndTheLast() {
        TelemetryLink x = Links.ofLength(8);
        x.send(60);
        Check.same("first", x.lose(0), 1);
        Check.same("last", x.lose(59), 2);
        Check.same("between", x.lose(30), 3);
        x.receive(60);
        Check.same("good", x.count(0), 57);
        Check.same("missing", x.count(2), 1);
        TelemetryLink one = Links.ofLength(8);
        one.send(1);
        Check.same("the only one", one.lose(0), 1);
    }

    private static void loseAgain() {
        TelemetryLink x = Links.ofLength(8);
        x.send(3);
        for (int i = 0; i < 3; i++) {
            Check.same("the same frame", x.lose(1), 1);
        }
        Check.same("another one", x.lose(2), 2);
        Check.same("the same frame", x.lose(1), 2);
    }

    private static void loseAll() {
        TelemetryLink x = Links.ofLength(8);
        x.send(60);
        for (int frame = 59; frame >= 0; frame--) {
            Check.same("lost", x.lose(frame), 60 - frame);
        }
        Check.same("lost ones included", x.wire(), 60);
        x.receive(60);
        Check.same("none is good", x.count(0), 0);
        Check.same("empty", x.wire(), 0);
    }

    private static void lostFramesThatLeft() {
        TelemetryLink x = Links.ofLength(8);
        x.send(10);
        x.lose(0);
        x.lose(1);
        x.lose(9);
        x.receive(2);
        Check.same("two left", x.lose(7), 1);
        x.receive(8);
        x.send(10);
        for (int frame = 0; frame < 10; frame++) {
            Check.same("new frames are not lost", x.lose(frame), frame + 1);
        }
    }
}
