/** Promise 12: read, with every fault and its place. */
public final class ReadTest {
    // ACTOR 2, SEQ 3, COUNTER 10, CLOCK 7 of actor 0.
    private static final String HEAD = "02030a0107";
    private static final String PUT_A = "00000161";
    private static final String FIRST = Make.framed("0001010001" + PUT_A);

    private static ChangeCodec busy(String input) {
        ChangeCodec x = Make.withInput(input);
        x.begin(6, 5, 4);
        x.hangs(1, 2);
        x.add(0, 0, 'q', 2, 9);
        x.write();
        return x;
    }

    /** The bytes alone, and behind a change that was read, where all places lie behind it. */
    private static void fault(String what, String input, int fault, int place) {
        ChangeCodec alone = busy(input);
        String change = Show.change(alone);
        Expect.due(what, alone.read(), fault);
        Expect.due(what + ", streams", Show.streams(alone),
                "-1,16," + input.length() / 2 + ",0," + fault + "," + place + ",-1,");
        Expect.due(what + ", the change stays", Show.change(alone), change);
        ChangeCodec second = busy(FIRST + input);
        second.read();
        change = Show.change(second);
        Expect.due(what + ", later", second.read(), fault);
        Expect.due(what + ", later", second.look(3), fault);
        Expect.due(what + ", later", second.look(4), place + 14);
        Expect.due(what + ", later", second.look(2), 14);
        Expect.due(what + ", later, the change stays", Show.change(second), change);
        Expect.due(what + ", again", second.read(), fault);
    }

    /** A BODY whose first wrong byte is told by its place in the BODY. */
    private static void inBody(String what, String body, int fault, int place) {
        fault(what, Make.framed(body), fault, 1 + place);
    }

    /** The one operation, the first behind HEAD, has the ID 10 * 8 + 2. */
    private static void inOperation(String what, String operation, int fault, int place) {
        inBody(what, HEAD + "01" + operation, fault, 6 + place);
    }

    private static void fine(String what, String body, String change) {
        ChangeCodec x = busy(Make.framed(body));
        Expect.due(what, x.read(), 0);
        Expect.due(what, Show.change(x), change);
        Expect.due(what, x.look(2), Make.framed(body).length() / 2);
        Expect.due(what, x.look(3), 0);
        Expect.due(what, x.look(4), -1);
        x.clear();
        x.write();
        Expect.due(what + ", written again", Show.output(x), Make.framed(body));
    }

    private static void fineOperation(String what, String operation, String shown) {
        fine(what, HEAD + "01" + operation, "-1,2,3,10,1,-1,-1,-1,-1,7,0,2,0,0,0,0,0,-1,[" + shown + "]");
    }

    private static void lengths() {
        fault("length 0", "00" + "00", 3, 0);
        fault("length 1001", "e907" + "00", 3, 1);
        fault("length 1000", "e807" + "02", 1, 3);
        fault("length 1000, a fault in the BODY", "e807" + "08", 3, 2);
        fault("length 16384", "808001", 3, 2);
        fault("length 2147483647", "ffffffff07", 3, 4);
        fault("length 2147483648", "8080808008", 2, 4);
        fault("length above a U", "ffffffff7f", 2, 4);
        fault("128 in the fifth byte", "8080808080", 2, 4);
        fault("128 in the fifth byte, more behind", "ffffffffff01", 2, 4);
        fault("not as few bytes", "8900", 2, 1);
        fault("not as few bytes, five of them", "8980808000", 2, 4);
        for (int n = 1; n <= 4; n++) {
            fault("the INPUT ends in the length", "80".repeat(n), 1, n);
        }
    }

    /** Every place where bytes can lack in a change with every type in it. */
    private static void lackingBytes() {
        String body = HEAD + "08" + "10000161bf7f" + "1800026261026363" + "0213c0843d" + "331b00" + "0b230a01"
                + "042b13" + "05332b" + "013b017a";
        String whole = Make.framed(body);
        int n = body.length() / 2;
        for (int k = 1; k < n + 5; k++) {
            fault("the INPUT ends behind " + k, whole.substring(0, 2 * k), 1, k);
        }
        for (int k = 1; k < n; k++) {
            String shorter = Show.hex(k) + whole.substring(2);
            fault("the BODY ends behind " + k, shorter, 4, 1 + k);
            fault("BODY and INPUT end behind " + k, shorter.substring(0, 2 + 2 * k), 4, 1 + k);
            if (k > 1) {
                fault("the INPUT ends first", shorter.substring(0, 2 * k), 1, k);
            }
        }
        for (int more = 1; more <= 4; more++) {
            fault("the BODY has not ended", Make.framed(body + "00".repeat(more)), 4, 1 + n);
            fault("the BODY has not ended, the INPUT has", Show.hex(n + more) + body, 4, 1 + n);
        }
        for (int bit = 0; bit < 32; bit++) {
            byte[] bytes = Make.bytes(whole);
            bytes[1 + n + bit / 8] ^= 1 << bit % 8;
            fault("bit " + bit + " of the CHECK", Make.hex(bytes), 5, 1 + n);
        }
        fault("the CHECK of other bytes", whole.substring(0, 2 + 2 * n) + "00000000", 5, 1 + n);
        fault("one byte of a wrong CHECK lacks", whole.substring(0, 2 + 2 * n) + "000000", 1, 4 + n);
    }

    private static void head() {
        inBody("ACTOR 8", "08" + "ff", 3, 0);
        inBody("ACTOR 255", "ff" + "ff", 3, 0);
        inBody("SEQ 0", "02" + "00" + "ff", 3, 1);
        inBody("SEQ 10001", "02" + "914e" + "ff", 3, 2);
        inBody("SEQ in too many bytes", "02" + "8300" + "ff", 2, 2);
        inBody("SEQ with 128 in the fifth byte", "02" + "8080808080" + "00", 2, 5);
        inBody("SEQ above a U", "02" + "8080808008", 2, 5);
        inBody("COUNTER 0", "0203" + "00" + "ff", 3, 2);
        inBody("COUNTER 100001", "0203" + "a18d06" + "ff", 3, 4);
        inBody("COUNTER in too many bytes", "0203" + "8a00" + "ff", 2, 3);
        inBody("the bit of the own CLOCK", "02030a" + "04" + "07", 3, 3);
        inBody("all bits of the CLOCK", "02030a" + "ff" + "07", 3, 3);
        inBody("a CLOCK of 0", "02030a" + "01" + "00" + "00", 3, 4);
        inBody("a CLOCK of 10001", "02030a" + "01" + "914e" + "00", 3, 5);
        inBody("a CLOCK in too many bytes", "02030a" + "01" + "8700" + "00", 2, 5);
        inBody("a later CLOCK of 0", "02030a" + "fb" + "01010101010100" + "01", 3, 10);
        inBody("no operations", HEAD + "00" + PUT_A, 3, 5);
        inBody("17 operations", HEAD + "11" + PUT_A.repeat(17), 3, 5);
        inBody("how many in too many bytes", HEAD + "8100" + PUT_A, 2, 6);
        inBody("a counter of 100001", "0203" + "a08d06" + "00" + "02" + PUT_A.repeat(2), 3, 6);
        inBody("a counter of 100001 at the end", "0203" + "928d06" + "00" + "10" + PUT_A.repeat(16), 3, 6);
        fine("the greatest numbers", "07" + "904e" + "a08d06" + "7f" + "904e".repeat(7) + "01" + PUT_A,
                "-1,7,10000,100000,1,-1,-1,-1,-1," + "10000,".repeat(7) + "9999,-1,[0,0,0,0,800007,97]");
        fine("the least numbers", "00" + "01" + "01" + "00" + "01" + PUT_A,
                "-1,0,1,1,1,-1,-1,-1,-1,0,0,0,0,0,0,0,0,-1,[0,0,0,0,8,97]");
        StringBuilder sixteen = new StringBuilder("-1,2,3,99985,16,-1,-1,-1,-1,7,0,2,0,0,0,0,0,-1,");
        for (int k = 0; k < 16; k++) {
            sixteen.append("[0,0,0,0,").append(Make.id(99985 + k, 2)).append(",97]");
        }
        fine("16 operations up to 100000", "0203" + "918d06" + "0107" + "10" + PUT_A.repeat(16), sixteen.toString());
    }

    private static boolean isHeader(int type, int kind) {
        boolean valued = type == 0 || type == 3 || type == 4;
        return type <= 5 && (kind == 0 || valued && kind <= 6);
    }

    private static void headers() {
        for (int b = 0; b < 256; b++) {
            // A REF with 128 in its fifth byte is the next fault where the header has none.
            boolean is = isHeader(b & 7, b >> 3);
            inOperation("TYPE + 8 * KIND " + b, Show.hex(b) + "8080808080", is ? 2 : 3, is ? 5 : 0);
        }
    }

    /** From 10 * 8 + 2 the least ID, 8, is 9 back: 73; 10 * 8 + 1 is 2; 9 * 8 is 9, and 10 * 8 is 1. */
    private static void refs() {
        String[] types = {"00", "01", "02", "03", "04", "05"};
        for (String type : types) {
            inOperation("OBJECT the own ID", type + "03", 3, 1);
            inOperation("OBJECT of the same counter, another actor", type + "08", 3, 1);
            inOperation("OBJECT with counter 0", type + "51", 3, 1);
            inOperation("OBJECT far back", type + "ffffffff07", 3, 5);
            inOperation("OBJECT above a U", type + "ffffffff08", 2, 5);
            inOperation("OBJECT in too many bytes", type + "8000", 2, 2);
        }
        for (String type : new String[] {"03", "04", "05"}) {
            inOperation("KEY the own ID", type + "00" + "03", 3, 2);
            inOperation("KEY of the same counter, another actor", type + "00" + "08", 3, 2);
            inOperation("KEY with counter 0", type + "00" + "51", 3, 2);
            inOperation("KEY in too many bytes", type + "00" + "8100", 2, 3);
            inOperation("KEY far back", type + "00" + "808001", 3, 4);
        }
        inOperation("OBJECT 0 for ADD", "020000", 3, 1);
        inOperation("KEY 0 for SET", "040000", 3, 2);
        inOperation("KEY 0 for REMOVE", "050000", 3, 2);
        fineOperation("INSERT at 0", "030000", "3,0,0,0,82,0");
        fineOperation("the same counter", "050201", "5,81,0,0,82,80");
        fineOperation("the counter before", "040910", "4,72,0,0,82,79");
        fineOperation("the least counter", "03504b", "3,15,0,0,82,10");
        fineOperation("the least ID", "024905", "2,8,0,5,82,0");
    }

    private static void letters() {
        for (String type : new String[] {"00", "01"}) {
            inOperation("no letters", type + "00" + "00" + "61", 3, 2);
            inOperation("nine letters", type + "00" + "09" + "61".repeat(9), 3, 2);
            inOperation("255 letters", type + "00" + "ff" + "61".repeat(9), 3, 2);
            for (String bad : new String[] {"60", "7b", "41", "00", "80", "e1", "ff"}) {
                inOperation("a bad letter", type + "00" + "01" + bad, 3, 3);
                inOperation("a bad letter among others", type + "00" + "08" + "617a62" + bad + "61616161", 3, 6);
                inOperation("a bad last letter", type + "00" + "08" + "617a6263616161" + bad, 3, 10);
            }
        }
        for (String header : new String[] {"18000161", "1b0000", "1c0002"}) {
            int at = header.length() / 2;
            inOperation("five letters", header + "05" + "61".repeat(5), 3, at);
            inOperation("255 letters", header + "ff" + "61".repeat(5), 3, at);
            inOperation("a bad letter", header + "01" + "60", 3, at + 1);
            inOperation("a bad last letter", header + "04" + "61627a7b", 3, at + 4);
        }
        fineOperation("eight letters", "0100" + "08" + "7a79787776757473",
                "1,0,0,0,82," + Make.letters("zyxwvuts"));
        fineOperation("texts", "1800" + "026162" + "04" + "7778797a",
                "0,0,3," + Make.letters("wxyz") + ",82," + Make.letters("ab"));
        fineOperation("no text", "1b0000" + "00", "3,0,3,0,82,0");
    }

    private static void values() {
        for (String header : new String[] {"08000161", "0b0000", "0c0002"}) {
            int at = header.length() / 2;
            inOperation("TRUTH 2", header + "02", 3, at);
            inOperation("TRUTH 255", header + "ff", 3, at);
            inOperation("TRUTH 128", header + "8100", 3, at);
        }
        for (String header : new String[] {"10000161", "20000161", "130000", "230000", "140002", "240002", "0209"}) {
            int at = header.length() / 2;
            inOperation("0 in two bytes", header + "8000", 2, at + 1);
            inOperation("63 in two bytes", header + "bf00", 2, at + 1);
            inOperation("-1 in two bytes", header + "ff7f", 2, at + 1);
            inOperation("-64 in two bytes", header + "c07f", 2, at + 1);
            inOperation("-1 in five bytes", header + "ffffffff7f", 2, at + 4);
            inOperation("0 in five bytes", header + "8080808000", 2, at + 4);
            inOperation("2147483648", header + "8080808008", 2, at + 4);
            inOperation("-2147483649", header + "ffffffff77", 2, at + 4);
            inOperation("a fifth group of 64", header + "8080808040", 2, at + 4);
            inOperation("a fifth group of 63", header + "808080803f", 2, at + 4);
            inOperation("128 in the fifth byte", header + "ffffffffff" + "7f", 2, at + 4);
        }
        String[] bytes = {"00", "3f", "40", "7f", "c000", "bf7f", "ff3f", "8040", "80c000", "ffbf7f", "80808001",
            "ffffff3f", "80808040", "80808080" + "01", "8080808078", "ffffffff07", "ffffffbf7f", "808080c000"};
        int[] numbers = {0, 63, -64, -1, 64, -65, 8191, -8192, 8192, -8193, 2097152, 134217727, -134217728,
            268435456, Integer.MIN_VALUE, Integer.MAX_VALUE, -134217729, 134217728};
        for (int k = 0; k < bytes.length; k++) {
            fineOperation("INT " + numbers[k], "10000161" + bytes[k], "0,0,2," + numbers[k] + ",82,97");
            fineOperation("COUNTER " + numbers[k], "230000" + bytes[k], "3,0,4," + numbers[k] + ",82,0");
            fineOperation("ADD " + numbers[k], "0209" + bytes[k], "2,72,0," + numbers[k] + ",82,0");
        }
        fineOperation("TRUTH 1", "0c000201", "4,0,1,1,82,81");
        fineOperation("TRUTH 0", "0c000200", "4,0,1,0,82,81");
        fineOperation("MAP", "2800016d", "0,0,5,0,82,109");
        fineOperation("LIST", "330000", "3,0,6,0,82,0");
    }

    /** Of several faults the first one in the order of the bytes is told. */
    private static void firstOfSeveral() {
        inBody("ACTOR and SEQ", "0800", 3, 0);
        inBody("SEQ and COUNTER", "020000", 3, 1);
        fault("a fault ahead of a wrong CHECK", "09" + "0001010001" + "00000141" + "00000000", 3, 9);
        fault("a fault in a BODY that the INPUT cuts", "7f" + "02030a04", 3, 4);
        fault("the end of the BODY ahead of the CHECK", "08" + "0001010001" + "00000161" + "00000000", 4, 9);
        fault("more BODY ahead of the CHECK", "0a" + "0001010001" + "00000161" + "00000000", 4, 10);
        fault("a second operation of wrong type", Make.framed(HEAD + "02" + PUT_A + "06"), 3, 11);
    }

    private static void goingOn() {
        String two = Make.framed(HEAD + "01" + PUT_A);
        ChangeCodec x = Make.withInput(FIRST + two + "00");
        Expect.due("the first", x.read(), 0);
        Expect.due("AT", x.look(2), 14);
        Expect.due("actor", x.of(0), 0);
        Expect.due("the second", x.read(), 0);
        Expect.due("AT", x.look(2), 29);
        Expect.due("actor", x.of(0), 2);
        Expect.due("a fault", x.read(), 3);
        Expect.due("AT", x.look(2), 29);
        Expect.due("the change", x.of(0), 2);
        x.cut(29);
        x.read();
        Expect.due("no fault", x.look(3), 0);
        Expect.due("no place", x.look(4), -1);
        x.read();
        x.give(8, 1);
        Expect.due("a fault", x.read(), 1);
        x.cut(0);
        String before = Show.all(x);
        Expect.due("at the end", x.read(), -1);
        Expect.dueUnchanged("read() at the end", x, before);
        x.hangs(5, 50);
        x.add(1, 0, 'r', 0, 0);
        Expect.due("a change that was read goes on", Show.change(x),
                "-1,2,3,10,2,-1,-1,-1,-1,7,0,2,0,0,50,0,0,-1,[0,0,0,0,82,97][1,0,0,0,90,114]");
    }

    /** A fault that comes late in a longer change leaves nothing of it in the next one. */
    private static void noTraces() {
        ChangeCodec from = Make.longest();
        from.write();
        String output = Show.output(from);
        ChangeCodec x = Make.withInput(output.substring(0, output.length() - 2));
        Expect.due("the CHECK lacks a byte", x.read(), 1);
        Expect.due("no change", x.of(0), -1);
        x.cut(0);
        Make.give(x, Make.bytes(FIRST));
        Expect.due("read()", x.read(), 0);
        Expect.due("the change", Show.change(x), "-1,0,1,1,1,-1,-1,-1,-1,0,0,0,0,0,0,0,0,-1,[0,0,0,0,8,97]");
    }

    public static void main(String[] args) {
        lengths();
        lackingBytes();
        head();
        headers();
        refs();
        letters();
        values();
        firstOfSeveral();
        goingOn();
        noTraces();
        Expect.end();
    }
}
