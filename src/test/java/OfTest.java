/** Promise 13: of. */
public final class OfTest {
    private static final int[] NO_PARTS = {-1, 4, 5, 6, 7, 16, 17, -8, Integer.MIN_VALUE, Integer.MAX_VALUE};

    public static void main(String[] args) {
        Codec none = new Codec();
        for (int w = 0; w < 16; w++) {
            Expect.due("of(" + w + ") without a change", none.of(w), -1);
        }
        for (int w : NO_PARTS) {
            Expect.due("of(" + w + ") without a change", none.of(w), -1);
        }
        Codec x = Make.begun(6, 321, 4567);
        for (int a = 0; a < 8; a++) {
            x.hangs(a, 11 * a);
        }
        x.add(0, 0, 'a', 0, 0);
        x.add(0, 0, 'b', 0, 0);
        int[] due = {6, 321, 4567, 2, -1, -1, -1, -1, 0, 11, 22, 33, 44, 55, 320, 77};
        for (int w = 0; w < 16; w++) {
            Expect.due("of(" + w + ")", x.of(w), due[w]);
        }
        for (int w : NO_PARTS) {
            Expect.due("of(" + w + ")", x.of(w), -1);
        }
        x.write();
        x.turn();
        x.begin(1, 1, 1);
        x.read();
        for (int w = 0; w < 16; w++) {
            Expect.due("of(" + w + ") of what was read", x.of(w), due[w]);
        }
        Expect.end();
    }
}
