/** "READING goes from the place AT of the INPUT on": wherever that is, a change is read, and a fault has its place. */
public final class EveryPlaceTest {
    private static final int FULL = 4096;
    private static final int LONGEST = 316;
    private static final int SHORTEST = 14;
    // So many short changes can be written, and read again, within the calls of one object.
    private static final int SHORT_ONES = 120;

    /** The OUTPUT gets long changes, then one that moves the others by up to 13 bytes, and short ones behind it. */
    private static int write(Codec x, int longOnes, int moved) {
        for (int k = 0; k < longOnes; k++) {
            x.write();
        }
        int changes = longOnes;
        for (int left = moved; left > 0; left -= 7) {
            Make.beginOfSize(x, SHORTEST + Math.min(7, left));
            x.write();
            changes++;
        }
        Make.beginOfSize(x, SHORTEST);
        for (int k = 0; k < SHORT_ONES && x.look(0) + SHORTEST <= FULL; k++) {
            x.write();
            changes++;
        }
        return changes;
    }

    private static int sizeAt(Codec x, int place) {
        int first = x.output(place);
        return first < 128 ? 1 + first + 4 : 2 + (first & 127 | x.output(place + 1) << 7) + 4;
    }

    /** Every change is read, and AT is behind it. */
    private static void fine(int longOnes, int moved) {
        Codec x = Make.longest();
        int changes = write(x, longOnes, moved);
        x.turn();
        int at = 0;
        for (int k = 0; k < changes; k++) {
            String what = "read() at " + at;
            int size = sizeAt(x, at);
            Expect.due(what, x.read(), 0);
            at += size;
            Expect.due(what + ", AT", x.look(2), at);
            Expect.due(what + ", the change", x.of(1), size == LONGEST ? 10000 : 1);
        }
        Expect.due("read() at the end", x.read(), ChangeCodec.NONE);
        Expect.due("all bytes were read", at, x.look(0));
    }

    /** The INPUT's end, wherever it cuts a change, is fault 1 there; the byte that comes instead is fault 3 there. */
    private static void faults(int bytes) {
        Codec x = Make.withOutput(bytes);
        x.turn();
        while (x.read() == 0) {
            Expect.due("no fault", x.look(4), ChangeCodec.NONE);
        }
        Expect.due("AT", x.look(2), bytes);
        x.give(0x0900, 2);
        Expect.due("a change cut at " + (bytes + 2), x.read(), 1);
        Expect.due("its place", x.look(4), bytes + 2);
        x.give(0x00, 1);
        Expect.due("SEQ 0 at " + (bytes + 2), x.read(), 3);
        Expect.due("its place", x.look(4), bytes + 2);
        Expect.due("AT", x.look(2), bytes);
    }

    public static void main(String[] args) {
        for (int moved = 0; moved < SHORTEST; moved++) {
            fine(0, moved);
            for (int longOnes = 1; longOnes <= 12; longOnes++) {
                fine(longOnes, moved);
            }
        }
        for (int bytes = 28; bytes <= FULL - 3; bytes++) {
            faults(bytes);
        }
        Expect.end();
    }
}
