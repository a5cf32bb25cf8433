/** Promise 5: undo. */
public final class UndoTest {
    public static void main(String[] args) {
        Expect.due("undo() without a change", new Codec().undo(), false);
        Codec x = Make.begun(1, 2, 3);
        String bare = Show.all(x);
        Expect.due("undo() without operations", x.undo(), false);
        Expect.dueUnchanged("undo()", x, bare);
        x.hangs(6, 9);
        x.add(0, 0, 'a', 2, 11);
        String one = Show.all(x);
        x.add(0, 0, 'b', 2, 12);
        Expect.due("undo()", x.undo(), true);
        Expect.dueUnchanged("undo()", x, one);
        Expect.due("the ID is free again", x.add(1, 0, 'c', 0, 0), Make.id(4, 1));
        Expect.due("its type", x.operation(1, 0), 1);
        Expect.due("undo()", x.undo(), true);
        Expect.due("undo()", x.undo(), true);
        Expect.due("undo()", x.undo(), false);
        Expect.due("operations", x.of(3), 0);
        Expect.due("the clock stays", x.of(14), 9);

        Codec full = Make.longest();
        full.write();
        full.turn();
        full.read();
        for (int k = 16; k > 0; k--) {
            Expect.due("operations", full.of(3), k);
            Expect.due("undo() of a change that was read", full.undo(), true);
        }
        Expect.due("undo()", full.undo(), false);
        Expect.end();
    }
}
