/** Promise 3: hangs. */
public final class HangsTest {
    private static void refused(Codec x, int actor, int n) {
        String call = "hangs(" + actor + ", " + n + ")";
        String before = Show.all(x);
        Expect.due(call, x.hangs(actor, n), false);
        Expect.dueUnchanged(call, x, before);
    }

    public static void main(String[] args) {
        refused(new Codec(), 1, 1);
        Codec x = Make.begun(4, 77, 5);
        for (int a = 0; a < 8; a++) {
            if (a != 4) {
                Expect.due("hangs(" + a + ", 10000)", x.hangs(a, 10000), true);
                Expect.due("of its clock", x.of(8 + a), 10000);
                Expect.due("hangs(" + a + ", 1)", x.hangs(a, 1), true);
                Expect.due("of its clock", x.of(8 + a), 1);
                Expect.due("hangs(" + a + ", 0)", x.hangs(a, 0), true);
                Expect.due("of its clock", x.of(8 + a), 0);
                Expect.due("hangs(" + a + ", " + (100 + a) + ")", x.hangs(a, 100 + a), true);
            }
        }
        Expect.due("the change", Show.change(x), "-1,4,77,5,0,-1,-1,-1,-1,100,101,102,103,76,105,106,107,-1,");
        refused(x, 4, 0);
        refused(x, 4, 76);
        refused(x, 4, 5);
        for (int actor : new int[] {8, -1, 12, Integer.MIN_VALUE, Integer.MAX_VALUE}) {
            refused(x, actor, 1);
        }
        for (int n : new int[] {-1, 10001, Integer.MIN_VALUE, Integer.MAX_VALUE}) {
            refused(x, 1, n);
        }
        Expect.end();
    }
}
