/** Promise 8: clear. */
public final class ClearTest {
    public static void main(String[] args) {
        Codec x = Make.longest();
        x.clear();
        Expect.due("bytes of an empty OUTPUT", x.look(0), 0);
        x.write();
        x.turn();
        String change = Show.change(x);
        x.clear();
        Expect.due("bytes of the OUTPUT", x.look(0), 0);
        Expect.due("output(0)", x.output(0), -1);
        Expect.due("the INPUT stays", x.look(1), 316);
        Expect.due("the change stays", Show.change(x), change);
        Expect.due("the INPUT is read", x.read(), 0);
        x.clear();
        Expect.due("AT stays", x.look(2), 316);
        for (int k = 1; k <= 12; k++) {
            x.write();
        }
        x.clear();
        Expect.due("there is room again", x.write(), 316);
        x.clear();
        x.turn();
        Expect.due("an empty OUTPUT turned", x.look(1), 0);
        Expect.end();
    }
}
