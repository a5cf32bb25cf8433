/** What read() answers to given bytes, with all that it leaves alone. */
final class Reads {
    // ACTOR 2, SEQ 3, COUNTER 10, CLOCK 7 of actor 0.
    static final String HEAD = "02030a0107";
    static final String PUT_A = "00000161";
    static final String FIRST = Make.framed("0001010001" + PUT_A);

    private Reads() {
    }

    private static Codec busy(String input) {
        Codec x = Make.withInput(input);
        x.begin(6, 5, 4);
        x.hangs(1, 2);
        x.add(0, 0, 'q', 2, 9);
        x.write();
        return x;
    }

    /** The bytes alone, and behind a change that was read, where all places lie behind it. */
    static void fault(String what, String input, int fault, int place) {
        Codec alone = busy(input);
        String change = Show.change(alone);
        Expect.due(what, alone.read(), fault);
        Expect.due(what + ", streams", Show.streams(alone),
                "-1,16," + input.length() / 2 + ",0," + fault + "," + place + ",-1,");
        Expect.due(what + ", the change stays", Show.change(alone), change);
        Codec second = busy(FIRST + input);
        second.read();
        change = Show.change(second);
        Expect.due(what + ", later", second.read(), fault);
        Expect.due(what + ", later", second.look(3), fault);
        Expect.due(what + ", later", second.look(4), place + 14);
        Expect.due(what + ", later", second.look(2), 14);
        Expect.due(what + ", later, the change stays", Show.change(second), change);
        Expect.due(what + ", again", second.read(), fault);
    }

    /** A BODY whose first wrong byte is told by its place in the BODY. */
    static void inBody(String what, String body, int fault, int place) {
        String framed = Make.framed(body);
        int ahead = (framed.length() - body.length()) / 2 - 4;
        fault(what, framed, fault, ahead + place);
    }

    /** The one operation, the first behind HEAD, has the ID 10 * 8 + 2. */
    static void inOperation(String what, String operation, int fault, int place) {
        inBody(what, HEAD + "01" + operation, fault, 6 + place);
    }

    static void fine(String what, String body, String change) {
        Codec x = busy(Make.framed(body));
        Expect.due(what, x.read(), 0);
        Expect.due(what, Show.change(x), change);
        Expect.due(what, x.look(2), Make.framed(body).length() / 2);
        Expect.due(what, x.look(3), 0);
        Expect.due(what, x.look(4), -1);
        x.clear();
        x.write();
        Expect.due(what + ", written again", Show.output(x), Make.framed(body));
    }

    /** Bytes of a change that are read, and come again when that is written. */
    static void fine(String what, String body) {
        Codec x = busy(Make.framed(body));
        Expect.due(what, x.read(), 0);
        Expect.due(what, Show.streams(x), "-1,16," + x.look(1) + "," + x.look(1) + ",0,-1,-1,");
        x.clear();
        Expect.dueFine(what + ", written again", () -> x.write());
        Expect.due(what + ", written again", Show.output(x), Make.framed(body));
    }

    static void fineOperation(String what, String operation, String shown) {
        fine(what, HEAD + "01" + operation, "-1,2,3,10,1,-1,-1,-1,-1,7,0,2,0,0,0,0,0,-1,[" + shown + "]");
    }
}
