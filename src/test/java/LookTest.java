/** Promise 17: look. */
public final class LookTest {
    private static void streams(String when, Codec x, int... due) {
        for (int which = 0; which < 5; which++) {
            Expect.due("look(" + which + ") " + when, x.look(which), due[which]);
        }
        for (int which : new int[] {-1, 5, 6, Integer.MIN_VALUE, Integer.MAX_VALUE}) {
            Expect.due("look(" + which + ") " + when, x.look(which), -1);
        }
    }

    public static void main(String[] args) {
        Codec x = new Codec();
        streams("of a new object", x, 0, 0, 0, 0, -1);
        x.read();
        streams("after a read() of nothing", x, 0, 0, 0, 0, -1);
        x.begin(0, 1, 1);
        x.add(0, 0, 'a', 0, 0);
        x.write();
        streams("after write()", x, 14, 0, 0, 0, -1);
        x.turn();
        streams("after turn()", x, 14, 14, 0, 0, -1);
        x.give(0x0100, 2);
        x.give(0x01FF, 2);
        streams("after give()", x, 14, 18, 0, 0, -1);
        x.read();
        streams("after read()", x, 14, 18, 14, 0, -1);
        x.read();
        streams("after a fault", x, 14, 18, 14, 4, 16);
        x.cut(17);
        streams("after cut()", x, 14, 17, 0, 4, 16);
        x.read();
        streams("after a read() without a fault", x, 14, 17, 14, 0, -1);
        x.give(9, 1);
        x.cut(1);
        x.read();
        streams("after another fault", x, 14, 1, 0, 1, 1);
        x.cut(0);
        x.read();
        streams("at the end of the INPUT", x, 14, 0, 0, 1, 1);
        x.begin(1, 1, 1);
        x.clear();
        x.give(0, 1);
        streams("before the next read()", x, 0, 1, 0, 1, 1);
        x.read();
        streams("after a fault in byte 0", x, 0, 1, 0, 3, 0);
        Expect.end();
    }
}
