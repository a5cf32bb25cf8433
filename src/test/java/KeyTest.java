/** Promise 15: key. */
public final class KeyTest {
    private static void wrong(Codec x, int i) {
        Expect.dueThrow("key(" + i + ")", x, IndexOutOfBoundsException.class, () -> x.key(i));
    }

    private static void keys(Codec x, long... due) {
        for (int i = 0; i < due.length; i++) {
            Expect.due("key(" + i + ")", x.key(i), due[i]);
        }
        for (int i : new int[] {-1, due.length, 16, Integer.MIN_VALUE, Integer.MAX_VALUE}) {
            wrong(x, i);
        }
    }

    public static void main(String[] args) {
        wrong(new Codec(), 0);
        Codec x = Make.begun(4, 3, 30);
        wrong(x, 0);
        long[] due = {Make.letters("zyxwvuts"), 'q', 0, 0, Make.id(31, 1), Make.id(1, 0), Make.id(35, 4)};
        x.add(0, 0, due[0], 0, 0);
        x.add(1, 0, due[1], 0, 0);
        x.add(2, 8, due[2], 0, 9);
        x.add(3, 0, due[3], 0, 0);
        x.add(3, 0, due[4], 0, 0);
        x.add(4, 0, due[5], 0, 0);
        x.add(5, 0, due[6], 0, 0);
        keys(x, due);
        x.write();
        x.turn();
        x.begin(1, 1, 1);
        wrong(x, 0);
        x.read();
        keys(x, due);
        x.undo();
        wrong(x, 6);
        Expect.end();
    }
}
