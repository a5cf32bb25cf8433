/** Promise 9: give. */
public final class GiveTest {
    private static void refused(Codec x, long v, int n) {
        String call = "give(" + v + ", " + n + ")";
        String before = Show.all(x);
        Expect.due(call, x.give(v, n), false);
        Expect.dueUnchanged(call, x, before);
    }

    /** The bytes of one change, given n at a time, are read as that change. */
    private static void piecewise(int n, long above) {
        Codec from = Make.longest();
        from.write();
        byte[] bytes = Make.bytes(Show.output(from));
        Codec x = new Codec();
        int k = 0;
        while (k < bytes.length) {
            int now = Math.min(n, bytes.length - k);
            long v = now < 8 ? above : 0;
            for (int i = 0; i < now; i++) {
                v = v << 8 | bytes[k + i] & 255;
            }
            Expect.due("give by " + n, x.give(v, now), true);
            k += now;
            Expect.due("bytes of the INPUT", x.look(1), k);
            Expect.due("AT", x.look(2), 0);
        }
        Expect.due("read() of what came by " + n, x.read(), 0);
        Expect.due("the change", Show.change(x), Show.change(from));
    }

    /** All calls that an object is used for: just as many as fill the INPUT. */
    private static void byEights() {
        ChangeCodec x = new ChangeCodec();
        for (int k = 0; k < 512; k++) {
            Expect.due("give(.., 8) of " + 8 * k + " bytes", x.give(0x0102030405060708L, 8), true);
        }
    }

    private static void upToTheEnd() {
        Codec x = Make.withOutput(4080);
        x.turn();
        x.clear();
        Expect.due("give(0, 8)", x.give(0, 8), true);
        Expect.due("give(0, 7)", x.give(0, 7), true);
        Expect.due("bytes of the INPUT", x.look(1), 4095);
        for (int n = 2; n <= 8; n++) {
            refused(x, 1, n);
        }
        Expect.due("the last byte", x.give(0, 1), true);
        Expect.due("bytes of the INPUT", x.look(1), 4096);
        refused(x, 1, 1);
        x.cut(4090);
        refused(x, 1, 7);
        Expect.due("six more", x.give(1, 6), true);
        Expect.due("the OUTPUT stays", x.look(0), 0);
    }

    public static void main(String[] args) {
        for (int n = 1; n <= 8; n++) {
            piecewise(n, 0);
            piecewise(n, -1);
        }
        Codec x = new Codec();
        for (int n : new int[] {0, -1, 9, Integer.MIN_VALUE, Integer.MAX_VALUE}) {
            refused(x, 1, n);
        }
        byEights();
        upToTheEnd();

        Codec reading = Make.withInput(Make.framed("000101000100000161"));
        reading.read();
        Expect.due("behind the end", reading.give(5, 1), true);
        Expect.due("AT stays", reading.look(2), 14);
        Expect.due("read() goes on there", reading.read(), 1);
        Expect.due("place", reading.look(4), 15);
        Expect.end();
    }
}
