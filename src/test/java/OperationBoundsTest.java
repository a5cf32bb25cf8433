/**
 * "Terms", what an OPERATION can be: the last case that is allowed and the first that is not, by add() and by bytes.
 * What none can be is IllegalArgumentException there, and fault 3 here, with nothing changed.
 */
public final class OperationBoundsTest {
    private static final int PUT = 0;
    private static final int DROP = 1;
    private static final int ADD = 2;
    private static final int INSERT = 3;
    private static final int SET = 4;
    private static final int REMOVE = 5;
    private static final int[] VALUED = {PUT, INSERT, SET};
    private static final int[] BARE = {DROP, ADD, REMOVE};

    // The change of these tests has actor 2 and counters from here on; the least ID of all is 8.
    private final int counter;
    private final int own;

    private OperationBoundsTest(int counter) {
        this.counter = counter;
        own = Make.id(counter, 2);
    }

    private String head() {
        return "02" + "01" + Make.u(counter) + "00" + "01";
    }

    private static long keyOf(int type) {
        return type <= DROP ? 'a' : type == INSERT || type == ADD ? 0 : 8;
    }

    private static int objectOf(int type) {
        return type == ADD ? 8 : 0;
    }

    private static String header(int type, int kind) {
        return Show.hex(type + 8 * kind);
    }

    /** The bytes of an object and a key as keyOf and objectOf name them. */
    private String middle(int type) {
        String key = type <= DROP ? "0161" : type == ADD ? "" : Make.ref((int) keyOf(type), own);
        return Make.ref(objectOf(type), own) + key;
    }

    private void adds(int type, int object, long key, int kind, int value) {
        String call = "add(" + type + ", " + object + ", " + key + ", " + kind + ", " + value + ")";
        Codec x = Make.begun(2, 1, counter);
        Expect.dueFine(call, () -> x.add(type, object, key, kind, value));
        Expect.due(call, x.of(3), 1);
        if (x.of(3) == 1) {
            Expect.due(call + " is kept", x.operation(0, 0) + "," + x.operation(0, 1) + "," + x.operation(0, 2)
                    + "," + x.operation(0, 3) + "," + x.operation(0, 4) + "," + x.key(0),
                    type + "," + object + "," + kind + "," + value + "," + own + "," + key);
        }
    }

    private void addThrows(int type, int object, long key, int kind, int value) {
        String call = "add(" + type + ", " + object + ", " + key + ", " + kind + ", " + value + ")";
        Codec x = Make.begun(2, 1, counter);
        Expect.dueThrow(call, x, IllegalArgumentException.class, () -> x.add(type, object, key, kind, value));
        Expect.due("the next ID after " + call, x.add(PUT, 0, 'z', 0, 0), own);
    }

    private void readsFine(String operation) {
        Reads.fine("the operation " + operation, head() + operation);
    }

    /** The fault is at the last byte of the first of these two parts. */
    private void faultIn(String first, String rest) {
        Reads.inBody("the operation " + first + "|" + rest, head() + first + rest, 3,
                (head() + first).length() / 2 - 1);
    }

    /** TYPE is 0 to 5. */
    private void types() {
        for (int type = PUT; type <= REMOVE; type++) {
            adds(type, objectOf(type), keyOf(type), 0, 0);
            readsFine(header(type, 0) + middle(type) + (type == ADD ? "00" : ""));
        }
        for (int type : new int[] {-1, 6, 7, 8}) {
            for (long key : new long[] {0, 8, 'a'}) {
                addThrows(type, 0, key, 0, 0);
                addThrows(type, 8, key, 0, 0);
            }
        }
        faultIn("06", "00" + "0161");
        faultIn("07", "00" + "0161");
    }

    /** OBJECT is 0 or an ID less than the own one, for ADD not 0. */
    private void objects() {
        for (int type = PUT; type <= REMOVE; type++) {
            String rest = middle(type).substring(Make.ref(objectOf(type), own).length()) + (type == ADD ? "00" : "");
            for (int object : new int[] {8, 9, own - 10, own - 3, own - 2, own - 1}) {
                adds(type, object, keyOf(type), 0, 0);
                readsFine(header(type, 0) + Make.ref(object, own) + rest);
            }
            for (int object : new int[] {Integer.MIN_VALUE, -8, -1, 1, 7, own, own + 1, own + 5, own + 6}) {
                addThrows(type, object, keyOf(type), 0, 0);
            }
            for (int object : new int[] {7, 1, own, own + 1, own + 5}) {
                faultIn(header(type, 0) + Make.ref(object, own), rest);
            }
            // One further back than the counter 0 of actor 7 comes the counter -1.
            faultIn(header(type, 0) + Make.u(8L * counter + 9), rest);
            if (type == ADD) {
                addThrows(ADD, 0, 0, 0, 0);
                faultIn(header(ADD, 0) + "00", "00");
            } else {
                adds(type, 0, keyOf(type), 0, 0);
                readsFine(header(type, 0) + "00" + rest);
            }
        }
    }

    /** KEY of INSERT is 0 or an ID less than the own one, of SET and REMOVE such an ID, of ADD 0. */
    private void idKeys() {
        for (int type : new int[] {INSERT, SET, REMOVE}) {
            for (int key : new int[] {8, 9, own - 10, own - 3, own - 2, own - 1}) {
                adds(type, 0, key, 0, 0);
                readsFine(header(type, 0) + "00" + Make.ref(key, own));
            }
            for (long key : new long[] {Long.MIN_VALUE, -1, 1, 7, own, own + 1, own + 5, own + 6, 1L << 32,
                    (1L << 32) + 8, 'a' << 24}) {
                addThrows(type, 0, key, 0, 0);
            }
            for (int key : new int[] {7, 1, own, own + 1, own + 5}) {
                faultIn(header(type, 0) + "00" + Make.ref(key, own), "");
            }
            faultIn(header(type, 0) + "00" + Make.u(8L * counter + 9), "");
        }
        adds(INSERT, 0, 0, 0, 0);
        readsFine(header(INSERT, 0) + "0000");
        addThrows(SET, 0, 0, 0, 0);
        addThrows(REMOVE, 0, 0, 0, 0);
        faultIn(header(SET, 0) + "0000", "");
        faultIn(header(REMOVE, 0) + "0000", "");
        for (long key : new long[] {-1, 1, 8, own - 1, 'a', 1L << 32, Long.MIN_VALUE}) {
            addThrows(ADD, 8, key, 0, 0);
        }
    }

    /** KEY of PUT and DROP is one to eight letters a .. z. */
    private void letterKeys() {
        for (int type : new int[] {PUT, DROP}) {
            for (int n = 1; n <= 8; n++) {
                for (String letter : new String[] {"a", "z"}) {
                    String key = letter.repeat(n);
                    adds(type, 0, Make.letters(key), 0, 0);
                    readsFine(header(type, 0) + "00" + Show.hex(n) + Make.hex(key.getBytes()));
                    for (int at = 0; at < n; at++) {
                        badLetter(type, key, at);
                    }
                }
            }
            addThrows(type, 0, 0, 0, 0);
            faultIn(header(type, 0) + "00" + "00", "61");
            for (int n : new int[] {9, 10, 128, 255}) {
                faultIn(header(type, 0) + "00" + Show.hex(n), "61".repeat(9));
            }
        }
    }

    private void badLetter(int type, String key, int at) {
        for (char bad : new char[] {0, '`', '{', 'A', 'a' + 128, 255}) {
            String text = key.substring(0, at) + bad + key.substring(at + 1);
            if (bad != 0 || at > 0) {
                addThrows(type, 0, Make.letters(text), 0, 0);
            }
            String ahead = header(type, 0) + "00" + Show.hex(key.length()) + Make.hex(key.substring(0, at).getBytes());
            faultIn(ahead + Show.hex(bad), Make.hex(key.substring(at + 1).getBytes()));
        }
    }

    /** KIND is 0 to 6 for PUT, INSERT and SET, and 0 for all others. */
    private void kinds() {
        for (int type : VALUED) {
            for (int kind = 0; kind <= 6; kind++) {
                adds(type, 0, keyOf(type), kind, 0);
                readsFine(header(type, kind) + middle(type) + (kind >= 1 && kind <= 4 ? "00" : ""));
            }
            for (int kind : new int[] {Integer.MIN_VALUE, -1, 7, 8, 32, Integer.MAX_VALUE}) {
                addThrows(type, 0, keyOf(type), kind, 0);
            }
            for (int kind = 7; kind < 32; kind++) {
                faultIn(header(type, kind), middle(type));
            }
        }
        for (int type : BARE) {
            for (int kind : new int[] {-1, 1, 2, 3, 4, 5, 6, 7}) {
                addThrows(type, objectOf(type), keyOf(type), kind, 0);
            }
            for (int kind = 1; kind < 32; kind++) {
                faultIn(header(type, kind), middle(type) + "00");
            }
        }
    }

    /** VALUE is 0 for NULL, MAP, LIST, DROP and REMOVE. */
    private void noValues() {
        for (int value : new int[] {Integer.MIN_VALUE, -1, 1, 'a', Integer.MAX_VALUE}) {
            for (int type : VALUED) {
                addThrows(type, 0, keyOf(type), 0, value);
                addThrows(type, 0, keyOf(type), 5, value);
                addThrows(type, 0, keyOf(type), 6, value);
            }
            addThrows(DROP, 0, 'a', 0, value);
            addThrows(REMOVE, 0, 8, 0, value);
        }
    }

    /** TRUTH is 0 or 1. */
    private void truths() {
        for (int type : VALUED) {
            for (int value : new int[] {0, 1}) {
                adds(type, 0, keyOf(type), 1, value);
                readsFine(header(type, 1) + middle(type) + Show.hex(value));
            }
            for (int value : new int[] {Integer.MIN_VALUE, -1, 2, 256, 257}) {
                addThrows(type, 0, keyOf(type), 1, value);
            }
            for (int value = 2; value < 256; value++) {
                faultIn(header(type, 1) + middle(type) + Show.hex(value), "");
            }
        }
    }

    /** INT and COUNTER are any int, and so is the VALUE of ADD. */
    private void ints() {
        for (int value : new int[] {Integer.MIN_VALUE, Integer.MIN_VALUE + 1, -1, 0, 1, Integer.MAX_VALUE}) {
            for (int type : VALUED) {
                for (int kind : new int[] {2, 4}) {
                    adds(type, 0, keyOf(type), kind, value);
                    readsFine(header(type, kind) + middle(type) + Make.s(value));
                }
            }
            adds(ADD, 8, 0, 0, value);
            readsFine(header(ADD, 0) + middle(ADD) + Make.s(value));
        }
    }

    /** TEXT is none to four letters a .. z. */
    private void texts() {
        for (int type : VALUED) {
            String ahead = header(type, 3) + middle(type);
            for (String text : new String[] {"", "a", "z", "az", "aza", "aaaa", "zzzz"}) {
                adds(type, 0, keyOf(type), 3, (int) Make.letters(text));
                readsFine(ahead + Show.hex(text.length()) + Make.hex(text.getBytes()));
                for (int at = 0; at < text.length(); at++) {
                    badText(type, ahead, text, at);
                }
            }
            for (int n : new int[] {5, 6, 8, 128, 255}) {
                faultIn(ahead + Show.hex(n), "61".repeat(8));
            }
        }
    }

    private void badText(int type, String ahead, String text, int at) {
        for (char bad : new char[] {0, '`', '{', 'A', 'a' + 128, 255}) {
            String wrong = text.substring(0, at) + bad + text.substring(at + 1);
            if (bad != 0 || at > 0) {
                addThrows(type, 0, keyOf(type), 3, (int) Make.letters(wrong));
            }
            faultIn(ahead + Show.hex(text.length()) + Make.hex(text.substring(0, at).getBytes()) + Show.hex(bad),
                    Make.hex(text.substring(at + 1).getBytes()));
        }
    }

    private void all() {
        types();
        objects();
        idKeys();
        letterKeys();
        kinds();
        noValues();
        truths();
        ints();
        texts();
    }

    /** With counter 1 and actor 0 no ID is less than the own one; with actor 7 there are seven. */
    private static void leastIds() {
        for (int actor = 0; actor <= 7; actor++) {
            int own = Make.id(1, actor);
            String head = Show.hex(actor) + "01" + "01" + "00" + "01";
            for (int id = 1; id <= 16; id++) {
                int object = id;
                Codec x = Make.begun(actor, 1, 1);
                String call = "actor " + actor + " adds to " + object;
                if (id >= 8 && id < own) {
                    Expect.dueFine(call, () -> x.add(ADD, object, 0, 0, 0));
                    Reads.fine(call, head + "02" + Make.ref(id, own) + "00");
                } else {
                    Expect.dueThrow(call, x, IllegalArgumentException.class, () -> x.add(ADD, object, 0, 0, 0));
                }
            }
            Reads.inBody("REF of the own ID", head + "02" + Make.ref(own, own) + "00", 3, 6);
            Reads.inBody("REF to counter 0", head + "02" + Make.ref(7, own) + "00", 3, 6);
        }
    }

    /** Each operation has its own ID as its bound: the one before it can be referred to, and it itself not. */
    private static void laterOperations() {
        Codec x = Make.begun(6, 1, 300);
        x.add(PUT, 0, 'a', 5, 0);
        for (int k = 1; k < 16; k++) {
            int own = Make.id(300 + k, 6);
            Expect.dueThrow("its own OBJECT", x, IllegalArgumentException.class, () -> x.add(ADD, own, 0, 0, 0));
            Expect.dueThrow("its own KEY", x, IllegalArgumentException.class, () -> x.add(SET, 0, own, 0, 0));
            Expect.due("the one before", x.add(SET, own - 8, own - 1, 0, 0), own);
        }
        x.write();
        x.turn();
        String change = Show.change(x);
        x.begin(0, 1, 1);
        Expect.due("read()", x.read(), 0);
        Expect.due("the change", Show.change(x), change);
        String two = "06" + "01" + Make.u(300) + "00" + "02" + Reads.PUT_A;
        Reads.fine("the second's OBJECT is the first", two + "02" + "0f" + "00");
        Reads.inBody("the second's OBJECT is the second", two + "02" + "07" + "00", 3, 11);
    }

    public static void main(String[] args) {
        new OperationBoundsTest(10).all();
        new OperationBoundsTest(99999).all();
        new OperationBoundsTest(100000).all();
        leastIds();
        laterOperations();
        Expect.end();
    }
}
