/** Promise 11: turn. */
public final class TurnTest {
    public static void main(String[] args) {
        Codec x = Make.begun(1, 2, 3);
        x.add(0, 0, 'a', 2, 7);
        x.write();
        x.give(-1, 8);
        x.give(-1, 8);
        x.give(-1, 8);
        String output = Show.output(x);
        x.turn();
        Expect.due("the OUTPUT stays", Show.output(x), output);
        Expect.due("streams", Show.streams(x), "-1,15,15,0,0,-1,-1,");
        Expect.due("read()", x.read(), 0);
        Expect.due("AT", x.look(2), 15);
        x.begin(5, 6, 7);
        x.add(0, 0, 'b', 0, 0);
        x.write();
        Expect.due("the INPUT is a row of its own", x.look(1), 15);
        Expect.due("the INPUT is a row of its own", x.read(), -1);
        x.turn();
        Expect.due("AT is 0 again", x.look(2), 0);
        Expect.due("read()", x.read(), 0);
        Expect.due("the first", x.of(0), 1);
        Expect.due("read()", x.read(), 0);
        Expect.due("the second", x.of(0), 5);
        x.clear();
        x.begin(2, 2, 2);
        x.add(0, 0, 'c', 0, 0);
        x.write();
        x.cut(29);
        Expect.due("what is written later does not come", x.read(), 0);
        Expect.due("the first", x.of(0), 1);
        x.give(0, 1);
        x.read();
        x.read();
        int fault = x.look(3);
        int place = x.look(4);
        Expect.due("a fault", fault, 3);
        x.clear();
        x.turn();
        Expect.due("nothing, and the fault stays", Show.streams(x), "-1,0,0,0," + fault + "," + place + ",-1,");

        Codec full = Make.longest();
        for (int k = 0; k < 12; k++) {
            full.write();
        }
        full.turn();
        full.turn();
        for (int k = 1; k <= 12; k++) {
            full.begin(0, 1, 1);
            Expect.due("read() " + k, full.read(), 0);
            Expect.due("the change", Show.change(full), Show.change(Make.longest()));
            Expect.due("AT", full.look(2), 316 * k);
        }
        Expect.due("read()", full.read(), -1);
        Expect.end();
    }
}
