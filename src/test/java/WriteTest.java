/** Promise 7: write, with every byte of a change. */
public final class WriteTest {
    private static void bytes(String what, Codec x, String body) {
        int before = x.look(0);
        String kept = Show.change(x);
        String written = Show.output(x);
        String framed = Make.framed(body);
        Expect.due(what + " size", x.size(), framed.length() / 2);
        Expect.due(what, x.write(), before + framed.length() / 2);
        Expect.due(what, Show.output(x), written + framed);
        Expect.due(what + " leaves the change", Show.change(x), kept);
    }

    private static void everyType() {
        Codec x = Make.begun(2, 3, 10);
        x.hangs(0, 7);
        x.add(0, 0, Make.letters("a"), 2, -65);
        x.add(0, 0, Make.letters("ba"), 3, (int) Make.letters("cc"));
        x.add(2, 82, 0, 0, 1000000);
        x.add(3, 82, 0, 6, 0);
        x.add(3, 82, 105, 1, 1);
        x.add(4, 82, 106, 0, 0);
        x.add(5, 82, 90, 0, 0);
        x.add(1, 82, Make.letters("z"), 0, 0);
        String body = "02030a010708" + "10000161bf7f" + "18000262610263" + "63" + "0213c0843d" + "331b00"
                + "0b230a01" + "042b13" + "05332b" + "013b017a";
        bytes("every type", x, body);
        bytes("the same once more", x, body);
        x.undo();
        x.hangs(0, 0);
        x.hangs(7, 300);
        bytes("another clock", x, "02030a80ac0207" + body.substring(12, body.length() - 8));
        x.hangs(1, 1);
        x.hangs(3, 2);
        bytes("small clocks", x, "02030a8a0102ac0207" + body.substring(12, body.length() - 8));
    }

    private static void letters() {
        Codec x = Make.begun(0, 1, 1);
        x.add(0, 0, Make.letters("hgfedcba"), 3, (int) Make.letters("wxyz"));
        bytes("the first letter is the highest byte", x, "000101000118" + "00" + "08" + "6867666564636261"
                + "04" + "7778797a");
        x.undo();
        x.add(0, 0, Make.letters("q"), 3, 0);
        bytes("no letters", x, "0001010001" + "18" + "00" + "0171" + "00");
    }

    private static void value(int kind, int value, String bytes) {
        Codec x = Make.begun(0, 1, 1);
        x.add(0, 0, 'a', kind, value);
        bytes("kind " + kind + " value " + value, x, "0001010001" + Show.hex(8 * kind) + "000161" + bytes);
    }

    private static void values() {
        value(0, 0, "");
        value(1, 0, "00");
        value(1, 1, "01");
        value(5, 0, "");
        value(6, 0, "");
        for (int kind : new int[] {2, 4}) {
            value(kind, 0, "00");
            value(kind, 63, "3f");
            value(kind, 64, "c000");
            value(kind, -1, "7f");
            value(kind, -64, "40");
            value(kind, -65, "bf7f");
            value(kind, 8191, "ff3f");
            value(kind, 8192, "80c000");
            value(kind, -8192, "8040");
            value(kind, -8193, "ffbf7f");
            value(kind, Integer.MAX_VALUE, "ffffffff07");
            value(kind, Integer.MIN_VALUE, "8080808078");
        }
    }

    private static void numbers() {
        Codec x = Make.begun(7, 10000, 100000);
        for (int a = 0; a < 7; a++) {
            x.hangs(a, 127 + a);
        }
        x.add(4, Make.id(1, 7), Make.id(100000, 6), 4, -2);
        bytes("large numbers", x, "07" + "904e" + "a08d06" + "7f" + "7f" + "8001" + "8101" + "8201" + "8301" + "8401"
                + "8501" + "01" + "24" + "80ea30" + "07" + "7e");
    }

    private static void throwing() {
        Codec none = new Codec();
        Expect.dueThrow("write() without a change", none, IllegalStateException.class, () -> none.write());
        Codec x = Make.longest();
        for (int k = 1; k <= 12; k++) {
            Expect.due("write() " + k, x.write(), 316 * k);
        }
        Expect.dueThrow("write() without room", x, UnsupportedOperationException.class, () -> x.write());
        // 304 bytes are free.
        x.undo();
        Expect.due("size()", x.size(), 298);
        x.undo();
        x.add(0, Make.id(1, 7), Make.letters("abcdefgh"), 0, 0);
        x.add(0, 0, Make.letters("abcdefg"), 1, 1);
        Expect.due("size()", x.size(), 304);
        x.undo();
        x.add(0, 0, Make.letters("abcdefgh"), 1, 1);
        Expect.due("size()", x.size(), 305);
        Expect.dueThrow("one byte too many", x, UnsupportedOperationException.class, () -> x.write());
        x.undo();
        x.add(0, 0, Make.letters("abcdefg"), 1, 1);
        Expect.due("the last byte", x.write(), 4096);
        Expect.dueThrow("write() with no room at all", x, UnsupportedOperationException.class, () -> x.write());
        x.begin(1, 1, 1);
        Expect.dueThrow("no operations come first", x, IllegalStateException.class, () -> x.write());
    }

    public static void main(String[] args) {
        everyType();
        letters();
        values();
        numbers();
        throwing();
        Codec x = Make.begun(0, 1, 1);
        x.add(0, 0, 'a', 0, 0);
        x.write();
        // The CHECK as another program has computed it (zlib's crc32 of the nine bytes).
        Expect.due("the shortest", Show.output(x), "09" + "000101000100000161" + "bb561a92");
        Expect.end();
    }
}
