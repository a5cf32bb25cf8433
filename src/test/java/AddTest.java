/** Promise 4: add, with what an operation can be. */
public final class AddTest {
    private static final int PUT = 0;
    private static final int DROP = 1;
    private static final int ADD = 2;
    private static final int INSERT = 3;
    private static final int SET = 4;
    private static final int REMOVE = 5;
    private static final long A = 'a';
    // The change of these tests: its first operation has the ID 10 * 8 + 3.
    private static final int OWN = Make.id(10, 3);

    private static String call(int type, int object, long key, int kind, int value) {
        return "add(" + type + ", " + object + ", " + key + ", " + kind + ", " + value + ")";
    }

    private static void fine(int type, int object, long key, int kind, int value) {
        Codec x = Make.begun(3, 1, 10);
        String call = call(type, object, key, kind, value);
        int[] answer = {0};
        Expect.dueFine(call, () -> answer[0] = x.add(type, object, key, kind, value));
        Expect.due(call, answer[0], OWN);
        if (x.of(3) == 1) {
            Expect.due(call + " kept", Show.change(x), "-1,3,1,10,1,-1,-1,-1,-1,0,0,0,0,0,0,0,0,-1,["
                    + type + "," + object + "," + kind + "," + value + "," + OWN + "," + key + "]");
        }
    }

    private static void wrong(int type, int object, long key, int kind, int value) {
        Codec x = Make.begun(3, 1, 10);
        Expect.dueThrow(call(type, object, key, kind, value), x, IllegalArgumentException.class,
                () -> x.add(type, object, key, kind, value));
    }

    private static void types() {
        for (int type : new int[] {-1, 6, 7, 8, Integer.MIN_VALUE, Integer.MAX_VALUE}) {
            wrong(type, 0, 0, 0, 0);
            wrong(type, 8, A, 0, 0);
            wrong(type, 8, 8, 0, 0);
        }
    }

    private static long keyFor(int type) {
        return type == PUT || type == DROP ? A : type == ADD ? 0 : 8;
    }

    private static void objects() {
        for (int type = PUT; type <= REMOVE; type++) {
            long key = keyFor(type);
            if (type == ADD) {
                wrong(type, 0, key, 0, 0);
            } else {
                fine(type, 0, key, 0, 0);
            }
            fine(type, 8, key, 0, 0);
            fine(type, Make.id(9, 7), key, 0, 0);
            fine(type, OWN - 1, key, 0, 0);
            fine(type, Make.id(10, 0), key, 0, 0);
            for (int object : new int[] {OWN, OWN + 1, 7, 1, -1, -8, Integer.MIN_VALUE, Integer.MAX_VALUE}) {
                wrong(type, object, key, 0, 0);
            }
        }
    }

    private static void letterKeys() {
        for (int type = PUT; type <= DROP; type++) {
            for (String text : new String[] {"a", "z", "ab", "zzzzzzzz", "abcdefgh", "aaaaaaaa", "mnopqrs"}) {
                fine(type, 0, Make.letters(text), 0, 0);
            }
            for (String text : new String[] {"", "A", "`", "{", "a`", "{a", "a{bcdefg", "`bcdefgh", "abcdefg{"}) {
                wrong(type, 0, Make.letters(text), 0, 0);
            }
            wrong(type, 0, A << 8, 0, 0);
            wrong(type, 0, A << 56, 0, 0);
            wrong(type, 0, A << 16 | A, 0, 0);
            wrong(type, 0, A << 32 | A, 0, 0);
            wrong(type, 0, -1, 0, 0);
            wrong(type, 0, Make.letters("abcdefgh") | 1L << 63, 0, 0);
        }
    }

    private static void idKeys() {
        for (int type : new int[] {INSERT, SET, REMOVE}) {
            for (long key : new long[] {8, 9, OWN - 1, Make.id(10, 0), Make.id(9, 7)}) {
                fine(type, 0, key, 0, 0);
            }
            for (long key : new long[] {OWN, OWN + 1, 7, 1, -1, -8, 1L << 32, (1L << 32) + 8, (1L << 40) + 80,
                    Long.MIN_VALUE, Long.MIN_VALUE + 8, Long.MAX_VALUE, A << 8}) {
                wrong(type, 0, key, 0, 0);
            }
        }
        fine(INSERT, 0, 0, 0, 0);
        wrong(SET, 0, 0, 0, 0);
        wrong(REMOVE, 0, 0, 0, 0);
        for (long key : new long[] {1, 8, -1, A, 1L << 32, Long.MIN_VALUE}) {
            wrong(ADD, 8, key, 0, 0);
        }
    }

    private static void bareTypes() {
        for (int kind = -1; kind <= 8; kind++) {
            if (kind != 0) {
                wrong(DROP, 0, A, kind, 0);
                wrong(REMOVE, 0, 8, kind, 0);
                wrong(ADD, 8, 0, kind, 0);
            }
        }
        for (int value : new int[] {1, -1, 97, Integer.MIN_VALUE, Integer.MAX_VALUE}) {
            wrong(DROP, 0, A, 0, value);
            wrong(REMOVE, 0, 8, 0, value);
            fine(ADD, 8, 0, 0, value);
        }
    }

    private static void values() {
        for (int type : new int[] {PUT, INSERT, SET}) {
            long key = keyFor(type);
            for (int kind : new int[] {0, 5, 6}) {
                fine(type, 0, key, kind, 0);
                for (int value : new int[] {1, -1, 97, Integer.MIN_VALUE}) {
                    wrong(type, 0, key, kind, value);
                }
            }
            fine(type, 0, key, 1, 0);
            fine(type, 0, key, 1, 1);
            wrong(type, 0, key, 1, 2);
            wrong(type, 0, key, 1, -1);
            wrong(type, 0, key, 1, 257);
            for (int value : new int[] {0, 1, -1, Integer.MIN_VALUE, Integer.MAX_VALUE}) {
                fine(type, 0, key, 2, value);
                fine(type, 0, key, 4, value);
            }
            for (String text : new String[] {"", "a", "z", "ab", "abc", "abcd", "zzzz"}) {
                fine(type, 0, key, 3, (int) Make.letters(text));
            }
            for (int value : new int[] {1, '`', '{', 'A', -1, 'a' << 8, 'a' << 24, 'a' << 16 | 'a',
                    (int) Make.letters("{abc"), (int) Make.letters("abc`"), Integer.MIN_VALUE | 0x616161}) {
                wrong(type, 0, key, 3, value);
            }
            for (int kind : new int[] {-1, 7, 8, Integer.MIN_VALUE, Integer.MAX_VALUE}) {
                wrong(type, 0, key, kind, 0);
            }
        }
    }

    private static void limits() {
        Codec none = new Codec();
        Expect.dueThrow("add without a change", none, IllegalStateException.class, () -> none.add(0, 0, A, 0, 0));
        Expect.dueThrow("a wrong add without a change", none, IllegalStateException.class,
                () -> none.add(9, 0, A, 0, 0));

        Codec x = Make.begun(5, 1, 20);
        for (int k = 0; k < 16; k++) {
            Expect.due("add " + k, x.add(0, 0, A, 2, k), Make.id(20 + k, 5));
        }
        Expect.dueThrow("a seventeenth", x, IllegalStateException.class, () -> x.add(0, 0, A, 0, 0));
        Expect.dueThrow("a wrong seventeenth", x, IllegalStateException.class, () -> x.add(9, 0, A, 0, 0));
        x.undo();
        Expect.due("a sixteenth again", x.add(2, Make.id(34, 5), 0, 0, 3), Make.id(35, 5));

        Codec late = Make.begun(7, 1, 99999);
        Expect.due("counter 99999", late.add(0, 0, A, 0, 0), Make.id(99999, 7));
        Expect.due("counter 100000", late.add(3, 0, Make.id(100000, 6), 0, 0), Make.id(100000, 7));
        Expect.dueThrow("counter 100001", late, IllegalArgumentException.class, () -> late.add(0, 0, A, 0, 0));

        Codec last = Make.begun(7, 1, 99985);
        for (int k = 0; k < 16; k++) {
            last.add(0, 0, A, 0, 0);
        }
        Expect.dueThrow("both exceptions", last, IllegalStateException.class, () -> last.add(0, 0, A, 0, 0));

        Codec first = Make.begun(0, 1, 1);
        Expect.dueThrow("no ID is less than 8", first, IllegalArgumentException.class,
                () -> first.add(2, 8, 0, 0, 0));
        Expect.due("the least ID", first.add(0, 0, A, 0, 0), 8);
        Expect.due("its own change's ID", first.add(2, 8, 0, 0, 0), 16);
    }

    public static void main(String[] args) {
        types();
        objects();
        letterKeys();
        idKeys();
        bareTypes();
        values();
        limits();
        Expect.end();
    }
}
