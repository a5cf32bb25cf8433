import java.util.function.IntBinaryOperator;
import java.util.function.IntSupplier;
import java.util.function.IntToLongFunction;
import java.util.function.IntUnaryOperator;

/** Every byte at every place of a change, every length and every end of the INPUT, as the model reads them. */
public final class EveryByteTest {
    // COUNTER 99990 has REFs of all lengths; all types and kinds are there, and two-byte clocks.
    private static final String[] BODIES = {
        "0001010001" + Reads.PUT_A,
        "02030a0107" + "08" + "10000161bf7f" + "18000262610263" + "63" + "0213c0843d" + "331b00" + "0b230a01"
                + "042b13" + "05332b" + "013b017a",
        "05" + "904e" + Make.u(99990) + "c1" + "904e" + "8001" + "01" + "04" + "20" + Make.u(799920) + "017a"
                + "8080808078" + "1c" + "0e" + "7f" + "047a7a6161" + "23" + "00" + "00" + "ffffffff07"
                + "2c" + "16" + "8601",
        "07" + "01" + Make.u(100000) + "00" + "01" + "0c" + "00" + "07" + "01",
    };

    private static final String OTHER = "060203bf" + "01020304050607" + "02" + "18000171017a" + "1309033a";

    /** What read() answers, and what can be asked for after it, of the program or of the model. */
    private static String seen(IntSupplier read, IntUnaryOperator look, IntUnaryOperator of,
            IntBinaryOperator operation, IntToLongFunction key) {
        StringBuilder text = new StringBuilder();
        text.append(read.getAsInt());
        for (int which = 1; which <= 4; which++) {
            text.append(',').append(look.applyAsInt(which));
        }
        for (int w = 0; w < 16; w++) {
            text.append(',').append(of.applyAsInt(w));
        }
        for (int i = 0; i < of.applyAsInt(3); i++) {
            for (int w = 0; w < 5; w++) {
                text.append(',').append(operation.applyAsInt(i, w));
            }
            text.append(',').append(key.applyAsLong(i));
        }
        return text.toString();
    }

    /** The object has read a whole change before, of which nothing may be left. */
    private static void compare(byte[] bytes) {
        Codec x = Make.withInput(Make.framed(OTHER));
        x.read();
        Model model = new Model();
        for (byte b : bytes) {
            model.give(b, 1);
        }
        model.begin(1, 2, 3);
        x.cut(0);
        Make.give(x, bytes);
        x.begin(1, 2, 3);
        Expect.due("read() of " + Make.hex(bytes), seen(x::read, x::look, x::of, x::operation, x::key),
                seen(model::read, model::look, model::of, model::operation, model::key));
    }

    private static void everyByte(String body) {
        byte[] whole = Make.bytes(Make.framed(body));
        for (int k = 0; k < whole.length; k++) {
            for (int b = 0; b < 256; b++) {
                byte[] changed = whole.clone();
                changed[k] = (byte) b;
                compare(changed);
            }
        }
        int n = body.length() / 2;
        for (int k = 0; k < n; k++) {
            for (int b = 0; b < 256; b++) {
                byte[] changed = Make.bytes(body);
                changed[k] = (byte) b;
                compare(Make.bytes(Make.framed(Make.hex(changed))));
            }
        }
    }

    private static void everyEnd(String body) {
        String rest = Make.framed(body).substring(2) + "0000";
        for (int length = 0; length <= body.length() / 2 + 6; length++) {
            for (int end = 0; end <= rest.length(); end += 2) {
                compare(Make.bytes(Show.hex(length) + rest.substring(0, end)));
            }
        }
    }

    /** A byte lacks, comes twice, or comes from elsewhere, with the length and the CHECK made anew. */
    private static void everyShift(String body) {
        for (int k = 0; k < body.length(); k += 2) {
            String ahead = body.substring(0, k);
            String behind = body.substring(k + 2);
            compare(Make.bytes(Make.framed(ahead + behind)));
            for (int b = 0; b < 256; b++) {
                compare(Make.bytes(Make.framed(ahead + Show.hex(b) + body.substring(k))));
            }
        }
    }

    public static void main(String[] args) {
        Reads.fine("the change that is read before", OTHER);
        for (String body : BODIES) {
            Reads.fine("a change to begin with", body);
            everyByte(body);
            everyEnd(body);
            everyShift(body);
        }
        Expect.end();
    }
}
