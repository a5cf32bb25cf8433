/** Promise 2: begin. */
public final class BeginTest {
    private static void fine(int actor, int seq, int counter) {
        String call = "begin(" + actor + ", " + seq + ", " + counter + ")";
        Codec x = new Codec();
        Expect.dueFine(call, () -> x.begin(actor, seq, counter));
        Expect.due(call + " actor", x.of(0), actor);
        Expect.due(call + " seq", x.of(1), seq);
        Expect.due(call + " counter", x.of(2), counter);
        Expect.due(call + " operations", x.of(3), 0);
        for (int a = 0; a < 8; a++) {
            Expect.due(call + " clock " + a, x.of(8 + a), a == actor ? seq - 1 : 0);
        }
    }

    private static void wrong(int actor, int seq, int counter) {
        String call = "begin(" + actor + ", " + seq + ", " + counter + ")";
        Codec empty = new Codec();
        Expect.dueThrow(call, empty, IllegalArgumentException.class, () -> empty.begin(actor, seq, counter));
        Codec full = Make.longest();
        Expect.dueThrow(call, full, IllegalArgumentException.class, () -> full.begin(actor, seq, counter));
    }

    public static void main(String[] args) {
        fine(3, 12, 345);
        fine(0, 1, 1);
        fine(7, 10000, 100000);
        for (int far : new int[] {-1, Integer.MIN_VALUE, Integer.MAX_VALUE}) {
            wrong(far, 1, 1);
            wrong(1, far, 1);
            wrong(1, 1, far);
        }
        wrong(8, 1, 1);
        wrong(1, 0, 1);
        wrong(1, 10001, 1);
        wrong(1, 1, 0);
        wrong(1, 1, 100001);

        Codec x = Make.longest();
        x.write();
        x.turn();
        x.begin(2, 5, 9);
        Expect.due("begin in place of a change", Show.change(x), Show.change(Make.begun(2, 5, 9)));
        Expect.due("begin leaves the bytes", x.look(0), 316);
        Expect.due("begin leaves the bytes", x.look(1), 316);
        Expect.due("the next ID", x.add(0, 0, 'a', 0, 0), Make.id(9, 2));
        Expect.end();
    }
}
