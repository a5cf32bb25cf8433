/** Promise 10: cut. */
public final class CutTest {
    private static void refused(Codec x, int n) {
        String call = "cut(" + n + ")";
        String before = Show.all(x);
        Expect.due(call, x.cut(n), false);
        Expect.dueUnchanged(call, x, before);
    }

    public static void main(String[] args) {
        String one = Make.framed("000101000100000161");
        Codec x = Make.withInput(one + one);
        x.read();
        Expect.due("AT", x.look(2), 14);
        for (int n : new int[] {29, -1, Integer.MIN_VALUE, Integer.MAX_VALUE}) {
            refused(x, n);
        }
        String change = Show.change(x);
        Expect.due("cut(28)", x.cut(28), true);
        Expect.due("streams", Show.streams(x), "-1,0,28,0,0,-1,-1,");
        Expect.due("the change stays", Show.change(x), change);
        x.read();
        x.read();
        Expect.due("AT", x.look(2), 28);
        Expect.due("cut(27)", x.cut(27), true);
        Expect.due("AT", x.look(2), 0);
        Expect.due("read()", x.read(), 0);
        Expect.due("read()", x.read(), 1);
        Expect.due("cut(14)", x.cut(14), true);
        Expect.due("the fault stays", Show.streams(x), "-1,0,14,0,1,27,-1,");
        Expect.due("read()", x.read(), 0);
        refused(x, 15);
        x.write();
        Expect.due("cut(0)", x.cut(0), true);
        Expect.due("streams", Show.streams(x), "-1,14,0,0,0,-1,-1,");
        Expect.due("read()", x.read(), -1);
        Expect.due("cut(0) of nothing", x.cut(0), true);
        refused(x, 1);
        Expect.end();
    }
}
