/** "Terms", the OUTPUT and the INPUT with up to 4096 bytes each: empty, almost full, full, and one byte too many. */
public final class StreamEndsTest {
    private static final int FULL = 4096;

    /** write(): the last byte that has room, and the first that has none. */
    private static void writing() {
        for (int size = 14; size <= 21; size++) {
            Codec fits = Make.withOutput(FULL - size);
            Make.beginOfSize(fits, size);
            Expect.due("write() with just its room", fits.write(), FULL);
            Expect.due("bytes of the OUTPUT", fits.look(0), FULL);
            noRoom("write() with no room at all", fits);
            for (int free = size - 1; free > 0; free -= 4) {
                Codec x = Make.withOutput(FULL - free);
                Make.beginOfSize(x, size);
                noRoom("write() of " + size + " with room for " + free, x);
                Expect.due("size() needs no room", x.size(), size);
            }
        }
        Codec longest = Make.withOutput(FULL - 316);
        longest.begin(7, 10000, 99985);
        fillUp(longest);
        Expect.due("the longest with just its room", longest.write(), FULL);
        Codec tooLong = Make.withOutput(FULL - 315);
        tooLong.begin(7, 10000, 99985);
        fillUp(tooLong);
        noRoom("the longest with one byte less", tooLong);
        Expect.due("undo()", tooLong.undo(), true);
        Expect.due("a shorter one has room", tooLong.write(), FULL - 315 + 298);
    }

    private static void noRoom(String call, Codec x) {
        Expect.dueThrow(call, x, UnsupportedOperationException.class, () -> x.write());
    }

    private static void fillUp(Codec x) {
        for (int a = 0; a < 7; a++) {
            x.hangs(a, 10000);
        }
        for (int k = 0; k < 16; k++) {
            x.add(0, Make.id(1, 7), Make.letters("abcdefgh"), 2, Integer.MIN_VALUE);
        }
    }

    /** Of several exceptions the first one listed: no operations come ahead of no room. */
    private static void emptyChangeAndFullOutput() {
        Codec x = Make.withOutput(FULL);
        x.undo();
        Expect.dueThrow("write()", x, IllegalStateException.class, () -> x.write());
        x.begin(1, 1, 1);
        Expect.dueThrow("write()", x, IllegalStateException.class, () -> x.write());
        x.add(0, 0, 'a', 0, 0);
        noRoom("write()", x);
        x.clear();
        Expect.due("write() after clear()", x.write(), 14);
    }

    /** output(k): the first and the last byte that there is, and those beside them. */
    private static void outputs() {
        for (int bytes : new int[] {0, 28, 316 + 28, FULL - 1, FULL}) {
            Codec x = Make.withOutput(bytes);
            Expect.due("output(-1)", x.output(-1), -1);
            Expect.due("output(0)", x.output(0) == -1, bytes == 0);
            Expect.due("the last byte", x.output(bytes - 1) == -1, bytes == 0);
            Expect.due("the one behind it", x.output(bytes), -1);
            Expect.due("output(4096)", x.output(FULL), -1);
            x.clear();
            Expect.due("output(0) after clear()", x.output(0), -1);
            Expect.due("the last byte after clear()", x.output(bytes - 1), -1);
            Expect.due("bytes after clear()", x.look(0), 0);
        }
    }

    /** give(): for each n the INPUT with just room for it, and with one byte less. */
    private static void giving() {
        for (int n = 1; n <= 8; n++) {
            Codec x = Make.withOutput(FULL - n);
            x.turn();
            for (int more = n + 1; more <= 9; more++) {
                String before = Show.all(x);
                Expect.due("give(-1, " + more + ") with room for " + n, x.give(-1, more), false);
                Expect.dueUnchanged("give", x, before);
            }
            Expect.due("give(-1, " + n + ")", x.give(-1, n), true);
            Expect.due("bytes of the INPUT", x.look(1), FULL);
            for (int more = 0; more <= 9; more++) {
                String before = Show.all(x);
                Expect.due("give(-1, " + more + ") with no room", x.give(-1, more), false);
                Expect.dueUnchanged("give", x, before);
            }
            Expect.due("cut by one", x.cut(FULL - 1), true);
            Expect.due("two have no room", x.give(0, 2), false);
            Expect.due("one has", x.give(0, 1), true);
        }
    }

    /** cut(): all bytes stay, all but one, one, none; one more than there are, or -1, is refused. */
    private static void cutting() {
        for (int bytes : new int[] {0, 28, FULL - 1, FULL}) {
            Codec x = Make.withOutput(bytes);
            x.turn();
            x.read();
            for (int n : new int[] {bytes + 1, FULL + 1, -1}) {
                String before = Show.all(x);
                Expect.due("cut(" + n + ") of " + bytes, x.cut(n), false);
                Expect.dueUnchanged("cut", x, before);
            }
            Expect.due("cut(" + bytes + ")", x.cut(bytes), true);
            Expect.due("AT", x.look(2), 0);
            Expect.due("bytes of the INPUT", x.look(1), bytes);
            Expect.due("read() after that", x.read(), bytes == 0 ? -1 : 0);
            if (bytes > 0) {
                Expect.due("cut by one", x.cut(bytes - 1), true);
                Expect.due("what was there is too many", x.cut(bytes), false);
                Expect.due("cut(1)", x.cut(1), true);
                Expect.due("bytes of the INPUT", x.look(1), 1);
            }
            Expect.due("cut(0)", x.cut(0), true);
            Expect.due("cut(1) of nothing", x.cut(1), false);
            Expect.due("read() of nothing", x.read(), -1);
        }
    }

    /** turn(): of an empty and of a full OUTPUT, in place of an empty and of a full INPUT. */
    private static void turning() {
        Codec x = Make.withOutput(FULL);
        x.turn();
        Expect.due("a full INPUT", Show.streams(x), "-1,4096,4096,0,0,-1,-1,");
        x.read();
        x.turn();
        Expect.due("once more", Show.streams(x), "-1,4096,4096,0,0,-1,-1,");
        x.read();
        x.clear();
        Expect.due("clear() leaves the INPUT", Show.streams(x), "-1,0,4096,316,0,-1,-1,");
        x.turn();
        Expect.due("an empty INPUT", Show.streams(x), "-1,0,0,0,0,-1,-1,");
        Expect.due("read()", x.read(), -1);
        x.turn();
        Expect.due("an empty INPUT again", Show.streams(x), "-1,0,0,0,0,-1,-1,");
    }

    private static int readAll(Codec x) {
        int answer = 0;
        for (int k = 0; k < 300 && answer == 0; k++) {
            answer = x.read();
        }
        return answer;
    }

    /** read(): a change that ends with the INPUT's last byte, and one that would end a byte later. */
    private static void reading() {
        Codec x = Make.withOutput(FULL);
        x.turn();
        Expect.due("read() up to the end", readAll(x), -1);
        Expect.due("streams", Show.streams(x), "-1,4096,4096,4096,0,-1,-1,");
        x.cut(FULL - 1);
        Expect.due("read() up to the lacking byte", readAll(x), 1);
        Expect.due("the fault", x.look(3), 1);
        Expect.due("its place", x.look(4), FULL - 1);
        int at = x.look(2);
        Expect.due("the byte comes", x.give(x.output(FULL - 1), 1), true);
        Expect.due("AT stays", x.look(2), at);
        Expect.due("the rest is read", x.read(), 0);
        Expect.due("AT", x.look(2), FULL);
        Expect.due("the fault is gone", x.look(3), 0);
        Expect.due("its place is gone", x.look(4), -1);

        Codec cut = Make.withOutput(FULL - 6);
        cut.turn();
        cut.give(0x090001010001L, 6);
        Expect.due("a change that has no room", readAll(cut), 1);
        Expect.due("AT", cut.look(2), FULL - 6);
        Expect.due("its place is behind the last byte", cut.look(4), FULL);
        for (int k = 0; k < 3; k++) {
            Expect.due("and again", cut.read(), 1);
        }
        Codec last = Make.withOutput(FULL - 1);
        last.turn();
        last.give(0, 1);
        Expect.due("a fault in the very last byte", readAll(last), 3);
        Expect.due("its place", last.look(4), FULL - 1);
    }

    /** read() is NONE just where AT is at the INPUT's end; one byte more is read. */
    private static void endOfInput() {
        Codec x = Make.withInput(Reads.FIRST);
        Expect.due("read()", x.read(), 0);
        String before = Show.all(x);
        Expect.due("read() at the end", x.read(), -1);
        Expect.dueUnchanged("read()", x, before);
        x.give(14, 1);
        Expect.due("one byte more", x.read(), 1);
        Expect.due("its place", x.look(4), 15);
        x.cut(14);
        x.read();
        x.give(0, 1);
        Expect.due("another byte", x.read(), 3);
        x.cut(0);
        before = Show.all(x);
        Expect.due("read() of nothing", x.read(), -1);
        Expect.dueUnchanged("read()", x, before);
        Expect.due("the fault stays", x.look(3), 3);
        Expect.due("its place stays", x.look(4), 14);
    }

    public static void main(String[] args) {
        writing();
        emptyChangeAndFullOutput();
        outputs();
        giving();
        cutting();
        turning();
        reading();
        endOfInput();
        Expect.end();
    }
}
