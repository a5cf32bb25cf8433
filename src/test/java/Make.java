import java.util.zip.CRC32;

/** Bytes, letters and changes for the tests. */
final class Make {
    private Make() {
    }

    static byte[] bytes(String hex) {
        String digits = hex.replace(" ", "");
        byte[] made = new byte[digits.length() / 2];
        for (int k = 0; k < made.length; k++) {
            made[k] = (byte) Integer.parseInt(digits.substring(2 * k, 2 * k + 2), 16);
        }
        return made;
    }

    static String hex(byte[] bytes) {
        StringBuilder text = new StringBuilder();
        for (byte b : bytes) {
            text.append(Show.hex(b & 255));
        }
        return text.toString();
    }

    /** A length of one or two bytes, the BODY and its CHECK. */
    static String framed(String body) {
        byte[] of = bytes(body);
        int n = of.length;
        String length = n < 128 ? Show.hex(n) : Show.hex(n & 127 | 128) + Show.hex(n >> 7);
        return length + hex(of) + check(of);
    }

    static String check(byte[] body) {
        CRC32 crc = new CRC32();
        crc.update(body);
        long value = crc.getValue();
        StringBuilder text = new StringBuilder();
        for (int k = 0; k < 4; k++) {
            text.append(Show.hex((int) (value >> 8 * k) & 255));
        }
        return text.toString();
    }

    static void give(ChangeCodec x, byte[] bytes) {
        for (byte b : bytes) {
            x.give(b, 1);
        }
    }

    /** A new object whose INPUT has these bytes. */
    static ChangeCodec withInput(String hex) {
        ChangeCodec x = new ChangeCodec();
        give(x, bytes(hex));
        return x;
    }

    static ChangeCodec begun(int actor, int seq, int counter) {
        ChangeCodec x = new ChangeCodec();
        x.begin(actor, seq, counter);
        return x;
    }

    static long letters(String text) {
        long made = 0;
        for (char c : text.toCharArray()) {
            made = made << 8 | c;
        }
        return made;
    }

    static int id(int counter, int actor) {
        return counter * 8 + actor;
    }

    /** The longest change that there can be: 22 + 16 * 18 bytes of BODY, 316 in all. */
    static ChangeCodec longest() {
        ChangeCodec x = begun(7, 10000, 99985);
        for (int a = 0; a < 7; a++) {
            x.hangs(a, 10000);
        }
        for (int k = 0; k < 16; k++) {
            x.add(0, id(1, 7), letters("zyxwvuts"), 2, Integer.MIN_VALUE);
        }
        return x;
    }
}
