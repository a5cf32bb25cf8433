/** Promise 16: output. */
public final class OutputTest {
    private static final int[] FAR = {-1, Integer.MIN_VALUE, Integer.MAX_VALUE, 4096, 4097};

    public static void main(String[] args) {
        Codec x = new Codec();
        Expect.due("output(0) of nothing", x.output(0), -1);
        x.begin(0, 1, 1);
        x.add(0, 0, 'a', 2, Integer.MAX_VALUE);
        Expect.due("write()", x.write(), 19);
        String hex = Make.framed("00010100011000" + "0161" + "ffffffff07");
        for (int k = 0; k < 19; k++) {
            Expect.due("output(" + k + ")", x.output(k), Integer.parseInt(hex.substring(2 * k, 2 * k + 2), 16));
        }
        Expect.due("a byte above 127", x.output(10), 255);
        Expect.due("output(19)", x.output(19), -1);
        for (int k : FAR) {
            Expect.due("output(" + k + ")", x.output(k), -1);
        }
        x.write();
        Expect.due("output(19)", x.output(19), 14);
        x.clear();
        Expect.due("output(0) after clear()", x.output(0), -1);
        x.begin(1, 2, 3);
        x.add(0, 0, 'b', 0, 0);
        x.write();
        Expect.due("output(1)", x.output(1), 1);
        Expect.due("what is behind the end is gone", x.output(14), -1);
        Expect.end();
    }
}
