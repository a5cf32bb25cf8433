import java.util.zip.CRC32;

/** Bytes, letters and changes for the tests. */
final class Make {
    private Make() {
    }

    static byte[] bytes(String hex) {
        String digits = hex.replace(" ", "");
        byte[] made = new byte[digits.length() / 2];
        for (int k = 0; k < made.length; k++) {
            made[k] = (byte) Integer.parseInt(digits.substring(2 * k, 2 * k + 2), 16);
        }
        return made;
    }

    static String hex(byte[] bytes) {
        StringBuilder text = new StringBuilder();
        for (byte b : bytes) {
            text.append(Show.hex(b & 255));
        }
        return text.toString();
    }

    /** A length of one or two bytes, the BODY and its CHECK. */
    static String framed(String body) {
        byte[] of = bytes(body);
        int n = of.length;
        String length = n < 128 ? Show.hex(n) : Show.hex(n & 127 | 128) + Show.hex(n >> 7);
        return length + hex(of) + check(of);
    }

    static String check(byte[] body) {
        CRC32 crc = new CRC32();
        crc.update(body);
        long value = crc.getValue();
        StringBuilder text = new StringBuilder();
        for (int k = 0; k < 4; k++) {
            text.append(Show.hex((int) (value >> 8 * k) & 255));
        }
        return text.toString();
    }

    /** U of a number in as few bytes as can be; also of one that is too large for a U. */
    static String u(long number) {
        return number < 128 ? Show.hex((int) number) : Show.hex((int) (number & 127 | 128)) + u(number >> 7);
    }

    /** S of a number in as few bytes as can be; also of one that is no int. */
    static String s(long number) {
        boolean last = number >= -64 && number <= 63;
        int group = (int) (number & 127);
        return last ? Show.hex(group) : Show.hex(group | 128) + s(number >> 7);
    }

    /** A number as it is written, with so many groups more that say nothing new. */
    static String padded(String number, int more, int group) {
        if (more == 0) {
            return number;
        }
        int at = number.length() - 2;
        int last = Integer.parseInt(number.substring(at), 16);
        String going = Show.hex(group | 128).repeat(more - 1);
        return number.substring(0, at) + Show.hex(last | 128) + going + Show.hex(group);
    }

    /** REF by the document's formula, also of what no operation can refer to (a counter of 0, the own ID). */
    static String ref(int id, int own) {
        return u(id == 0 ? 0 : (own / 8 - id / 8) * 8 + id % 8 + 1);
    }

    static void give(Codec x, byte[] bytes) {
        for (int k = 0; k < bytes.length; k += 8) {
            int n = Math.min(8, bytes.length - k);
            long v = 0;
            for (int i = 0; i < n; i++) {
                v = v << 8 | bytes[k + i] & 255;
            }
            x.give(v, n);
        }
    }

    /** A new object whose INPUT has these bytes. */
    static Codec withInput(String hex) {
        Codec x = new Codec();
        give(x, bytes(hex));
        return x;
    }

    static Codec begun(int actor, int seq, int counter) {
        Codec x = new Codec();
        x.begin(actor, seq, counter);
        return x;
    }

    static long letters(String text) {
        long made = 0;
        for (char c : text.toCharArray()) {
            made = made << 8 | c;
        }
        return made;
    }

    static int id(int counter, int actor) {
        return counter * 8 + actor;
    }

    /** The longest change that there can be: 22 + 16 * 18 bytes of BODY, 316 in all. */
    static Codec longest() {
        Codec x = begun(7, 10000, 99985);
        for (int a = 0; a < 7; a++) {
            x.hangs(a, 10000);
        }
        for (int k = 0; k < 16; k++) {
            x.add(0, id(1, 7), letters("zyxwvuts"), 2, Integer.MIN_VALUE);
        }
        return x;
    }

    /** A change of 14 to 21 bytes: its one operation has a key of one to eight letters. */
    static void beginOfSize(Codec x, int bytes) {
        x.begin(0, 1, 1);
        x.add(0, 0, letters("abcdefgh".substring(0, bytes - 13)), 0, 0);
    }

    /** The OUTPUT of a new object gets so many bytes, all of them of whole changes (none, or 28 and more). */
    static Codec withOutput(int bytes) {
        Codec x = longest();
        int left = bytes;
        for (; left >= 316 + 28; left -= 316) {
            x.write();
        }
        for (int changes = left / 14; changes > 0; changes--) {
            int now = Math.min(21, left - 14 * (changes - 1));
            beginOfSize(x, now);
            x.write();
            left -= now;
        }
        Expect.due("an OUTPUT filled by the test", x.look(0), bytes);
        return x;
    }
}
