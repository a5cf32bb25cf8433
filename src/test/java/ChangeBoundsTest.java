/**
 * "Terms", the numbers of a CHANGE: the last one that is allowed and the first that is not, by calls and by bytes.
 * A number by bytes that none can be is fault 3 at its last byte.
 */
public final class ChangeBoundsTest {
    private static final String PUT_A = Reads.PUT_A;

    /** A change as the parts of its BODY: ACTOR, SEQ, COUNTER, bits and clocks, how many operations, these. */
    private static String body(String... parts) {
        return String.join("", parts);
    }

    /** The part with this number is the first that has a fault, which is at its last byte. */
    private static void faultIn(String what, int part, String... parts) {
        int place = -1;
        for (int k = 0; k <= part; k++) {
            place += parts[k].length() / 2;
        }
        Reads.inBody(what, body(parts), 3, place);
    }

    private static void begins(int actor, int seq, int counter) {
        String what = "actor " + actor + " seq " + seq + " counter " + counter;
        Codec x = Make.longest();
        Expect.dueFine("begin with " + what, () -> x.begin(actor, seq, counter));
        Expect.due(what, x.of(0), actor);
        Expect.due(what, x.of(1), seq);
        Expect.due(what, x.of(2), counter);
        Expect.due(what + ", its ID", x.add(0, 0, 'a', 0, 0), Make.id(counter, actor));
        Reads.fine("bytes with " + what, body(Show.hex(actor), Make.u(seq), Make.u(counter), "00", "01", PUT_A));
    }

    private static void beginThrows(int actor, int seq, int counter) {
        String call = "begin(" + actor + ", " + seq + ", " + counter + ")";
        for (Codec x : new Codec[] {new Codec(), Make.begun(1, 2, 3), Make.longest()}) {
            Expect.dueThrow(call, x, IllegalArgumentException.class, () -> x.begin(actor, seq, counter));
        }
    }

    /** An ACTOR is 0 .. 7. */
    private static void actors() {
        for (int a = 0; a <= 7; a++) {
            begins(a, 1, 1);
        }
        beginThrows(-1, 1, 1);
        beginThrows(8, 1, 1);
        for (int a = 8; a < 256; a++) {
            faultIn("ACTOR " + a, 0, Show.hex(a), "01", "01", "00", "01", PUT_A);
        }
    }

    /** A SEQ is 1 .. 10000. */
    private static void seqs() {
        begins(3, 1, 5);
        begins(3, 2, 5);
        begins(3, 9999, 5);
        begins(3, 10000, 5);
        beginThrows(3, -1, 5);
        beginThrows(3, 0, 5);
        beginThrows(3, 10001, 5);
        faultIn("SEQ 0", 1, "03", Make.u(0), "05", "00", "01", PUT_A);
        faultIn("SEQ 10001", 1, "03", Make.u(10001), "05", "00", "01", PUT_A);
    }

    /** A COUNTER is 1 .. 100000. */
    private static void counters() {
        begins(4, 6, 1);
        begins(4, 6, 2);
        begins(4, 6, 99999);
        begins(4, 6, 100000);
        beginThrows(4, 6, -1);
        beginThrows(4, 6, 0);
        beginThrows(4, 6, 100001);
        faultIn("COUNTER 0", 2, "04", "06", Make.u(0), "00", "01", PUT_A);
        faultIn("COUNTER 100001", 2, "04", "06", Make.u(100001), "00", "01", PUT_A);
    }

    private static void hangs(Codec x, int actor, int n, boolean allowed) {
        String call = "hangs(" + actor + ", " + n + ")";
        String before = Show.all(x);
        Expect.due(call, x.hangs(actor, n), allowed);
        if (allowed) {
            Expect.due(call, x.of(8 + actor), n);
        } else {
            Expect.dueUnchanged(call, x, before);
        }
    }

    /** A CLOCK is 0 .. 10000 for each other ACTOR; 0 has no bit and no bytes. */
    private static void clocks() {
        for (int own = 0; own <= 7; own++) {
            Codec x = Make.begun(own, 50, 60);
            for (int a = 0; a <= 7; a++) {
                if (a != own) {
                    clock(x, own, a);
                }
            }
            hangs(x, -1, 1, false);
            hangs(x, 8, 1, false);
        }
    }

    private static void clock(Codec x, int own, int a) {
        for (int n : new int[] {0, 1, 9999, 10000}) {
            hangs(x, a, n, true);
        }
        hangs(x, a, -1, false);
        hangs(x, a, 10001, false);
        String actor = Show.hex(own);
        String bit = Show.hex(1 << a);
        for (int n : new int[] {1, 10000}) {
            Reads.fine("CLOCK " + n, body(actor, "32", "3c", bit, Make.u(n), "01", PUT_A));
        }
        for (int n : new int[] {0, 10001}) {
            faultIn("CLOCK " + n, 4, actor, "32", "3c", bit, Make.u(n), "01", PUT_A);
        }
    }

    /** For its own ACTOR the CLOCK is SEQ - 1, which is not to be set, and has no bit. */
    private static void ownClocks() {
        for (int own = 0; own <= 7; own++) {
            for (int seq : new int[] {1, 2, 10000}) {
                Codec x = Make.begun(own, seq, 60);
                Expect.due("the own CLOCK of SEQ " + seq, x.of(8 + own), seq - 1);
                hangs(x, own, seq - 1, false);
                hangs(x, own, 0, false);
                hangs(x, own, 10000, false);
                x.add(0, 0, 'a', 0, 0);
                x.write();
                Expect.due("no bit", x.output(2 + Make.u(seq).length() / 2 + 1), 0);
            }
            faultIn("the own bit", 3, Show.hex(own), "32", "3c", Show.hex(1 << own), "31", "01", PUT_A);
            faultIn("all bits", 3, Show.hex(own), "32", "3c", "ff", "01".repeat(8), "01", PUT_A);
            Reads.fine("all other bits", body(Show.hex(own), "32", "3c", Show.hex(255 - (1 << own)),
                    "01".repeat(7), "01", PUT_A));
        }
    }

    private static Codec withOperations(int counter, int n) {
        Codec x = Make.begun(5, 1, counter);
        for (int k = 0; k < n; k++) {
            Expect.due("the ID of operation " + k, x.add(0, 0, 'a', 0, 0), Make.id(counter + k, 5));
        }
        return x;
    }

    /** A change has 1 to 16 OPERATIONS. */
    private static void operations() {
        Codec none = withOperations(7, 0);
        Expect.dueThrow("size() of none", none, IllegalStateException.class, () -> none.size());
        Expect.dueThrow("write() of none", none, IllegalStateException.class, () -> none.write());
        faultIn("no operations", 4, "05", "01", "07", "00", "00", PUT_A);
        faultIn("no operations, and no bytes of one", 4, "05", "01", "07", "00", "00");
        for (int n = 1; n <= 16; n++) {
            Codec x = withOperations(7, n);
            String body = body("05", "01", "07", "00", Show.hex(n), PUT_A.repeat(n));
            Expect.due("size() of " + n, x.size(), Make.framed(body).length() / 2);
            Expect.due("write() of " + n, x.write(), Make.framed(body).length() / 2);
            Expect.due("the bytes of " + n, Show.output(x), Make.framed(body));
            Reads.fine(n + " operations", body);
        }
        Codec full = withOperations(7, 16);
        Expect.dueThrow("a seventeenth", full, IllegalStateException.class, () -> full.add(0, 0, 'a', 0, 0));
        for (int n = 17; n < 128; n++) {
            faultIn(n + " operations", 4, "05", "01", "07", "00", Show.hex(n), PUT_A.repeat(17));
        }
        faultIn("128 operations", 4, "05", "01", "07", "00", Make.u(128), PUT_A.repeat(17));
    }

    /** The counter of each operation is at most 100000, too. */
    private static void lastCounters() {
        for (int n = 1; n <= 16; n++) {
            int first = 100001 - n;
            Codec x = withOperations(first, n);
            Class<?> due = n == 16 ? IllegalStateException.class : IllegalArgumentException.class;
            Expect.dueThrow("counter 100001", x, due, () -> x.add(0, 0, 'a', 0, 0));
            Expect.due("undo()", x.undo(), true);
            Expect.due("counter 100000 again", x.add(1, 0, 'b', 0, 0), Make.id(100000, 5));
            String operations = PUT_A.repeat(n);
            Reads.fine("up to 100000", body("05", "01", Make.u(first), "00", Show.hex(n), operations));
            if (n > 1) {
                faultIn("up to 100001", 4, "05", "01", Make.u(first + 1), "00", Show.hex(n), operations);
            }
        }
    }

    public static void main(String[] args) {
        actors();
        seqs();
        counters();
        clocks();
        ownClocks();
        operations();
        lastCounters();
        Expect.end();
    }
}
