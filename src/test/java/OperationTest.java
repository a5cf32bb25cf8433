/** Promise 14: operation. */
public final class OperationTest {
    private static void wrong(Codec x, int i, int w) {
        Expect.dueThrow("operation(" + i + ", " + w + ")", x, IndexOutOfBoundsException.class,
                () -> x.operation(i, w));
    }

    private static void row(Codec x, int i, int... due) {
        for (int w = 0; w < 5; w++) {
            Expect.due("operation(" + i + ", " + w + ")", x.operation(i, w), due[w]);
        }
    }

    private static void rows(Codec x) {
        row(x, 0, 0, 0, 2, -5, Make.id(30, 4));
        row(x, 1, 2, Make.id(30, 4), 0, Integer.MAX_VALUE, Make.id(31, 4));
        row(x, 2, 4, Make.id(29, 7), 3, (int) Make.letters("text"), Make.id(32, 4));
        for (int w : new int[] {-1, 5, 6, Integer.MIN_VALUE, Integer.MAX_VALUE}) {
            wrong(x, 0, w);
            wrong(x, 3, w);
        }
        for (int i : new int[] {-1, 3, 15, 16, Integer.MIN_VALUE, Integer.MAX_VALUE}) {
            wrong(x, i, 0);
            wrong(x, i, 4);
        }
    }

    public static void main(String[] args) {
        wrong(new Codec(), 0, 0);
        Codec x = Make.begun(4, 3, 30);
        wrong(x, 0, 0);
        x.add(0, 0, 'a', 2, -5);
        x.add(2, Make.id(30, 4), 0, 0, Integer.MAX_VALUE);
        x.add(4, Make.id(29, 7), Make.id(30, 3), 3, (int) Make.letters("text"));
        rows(x);
        x.write();
        x.turn();
        x.begin(1, 1, 1);
        wrong(x, 0, 0);
        x.read();
        rows(x);
        x.undo();
        wrong(x, 2, 0);
        Codec longest = Make.longest();
        row(longest, 15, 0, Make.id(1, 7), 2, Integer.MIN_VALUE, Make.id(100000, 7));
        wrong(longest, 16, 0);
        Expect.end();
    }
}
