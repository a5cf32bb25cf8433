/** Promise 1: no change, no bytes. */
public final class NewObjectTest {
    public static void main(String[] args) {
        Codec x = new Codec();
        for (int w = -2; w <= 17; w++) {
            Expect.due("of(" + w + ")", x.of(w), -1);
        }
        Expect.due("streams", Show.streams(x), "-1,0,0,0,0,-1,-1,");
        Expect.due("output(0)", x.output(0), -1);
        Expect.due("read()", x.read(), -1);
        Expect.due("undo()", x.undo(), false);
        Expect.due("hangs(0, 0)", x.hangs(0, 0), false);
        Expect.dueThrow("size()", x, IllegalStateException.class, () -> x.size());
        Expect.dueThrow("operation(0, 0)", x, IndexOutOfBoundsException.class, () -> x.operation(0, 0));
        Expect.dueThrow("key(0)", x, IndexOutOfBoundsException.class, () -> x.key(0));
        Codec other = Make.begun(1, 1, 1);
        other.add(0, 0, 'a', 0, 0);
        other.write();
        Expect.due("two objects share nothing", x.look(0), 0);
        Expect.due("two objects share nothing", x.of(0), -1);
        Expect.end();
    }
}
