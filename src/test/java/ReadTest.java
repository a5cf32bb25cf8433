/** Promise 12: read, with every fault and its place. */
public final class ReadTest {
    private static void lengths() {
        Reads.fault("length 0", "00" + "00", 3, 0);
        Reads.fault("length 1001", "e907" + "00", 3, 1);
        Reads.fault("length 1000", "e807" + "02", 1, 3);
        Reads.fault("length 1000, a fault in the BODY", "e807" + "08", 3, 2);
        Reads.fault("length 16384", "808001", 3, 2);
        Reads.fault("length 2147483647", "ffffffff07", 3, 4);
        Reads.fault("length 2147483648", "8080808008", 2, 4);
        Reads.fault("length above a U", "ffffffff7f", 2, 4);
        Reads.fault("128 in the fifth byte", "8080808080", 2, 4);
        Reads.fault("128 in the fifth byte, more behind", "ffffffffff01", 2, 4);
        Reads.fault("not as few bytes", "8900", 2, 1);
        Reads.fault("not as few bytes, five of them", "8980808000", 2, 4);
        for (int n = 1; n <= 4; n++) {
            Reads.fault("the INPUT ends in the length", "80".repeat(n), 1, n);
        }
    }

    /** Every place where bytes can lack in a change with every type in it. */
    private static void lackingBytes() {
        String body = Reads.HEAD + "08" + "10000161bf7f" + "1800026261026363" + "0213c0843d" + "331b00" + "0b230a01"
                + "042b13" + "05332b" + "013b017a";
        String whole = Make.framed(body);
        int n = body.length() / 2;
        for (int k = 1; k < n + 5; k++) {
            Reads.fault("the INPUT ends behind " + k, whole.substring(0, 2 * k), 1, k);
        }
        for (int k = 1; k < n; k++) {
            String shorter = Show.hex(k) + whole.substring(2);
            Reads.fault("the BODY ends behind " + k, shorter, 4, 1 + k);
            Reads.fault("BODY and INPUT end behind " + k, shorter.substring(0, 2 + 2 * k), 4, 1 + k);
            if (k > 1) {
                Reads.fault("the INPUT ends first", shorter.substring(0, 2 * k), 1, k);
            }
        }
        for (int more = 1; more <= 4; more++) {
            Reads.fault("the BODY has not ended", Make.framed(body + "00".repeat(more)), 4, 1 + n);
            Reads.fault("the BODY has not ended, the INPUT has", Show.hex(n + more) + body, 4, 1 + n);
        }
        for (int bit = 0; bit < 32; bit++) {
            byte[] bytes = Make.bytes(whole);
            bytes[1 + n + bit / 8] ^= 1 << bit % 8;
            Reads.fault("bit " + bit + " of the CHECK", Make.hex(bytes), 5, 1 + n);
        }
        Reads.fault("the CHECK of other bytes", whole.substring(0, 2 + 2 * n) + "00000000", 5, 1 + n);
        Reads.fault("one byte of a wrong CHECK lacks", whole.substring(0, 2 + 2 * n) + "000000", 1, 4 + n);
    }

    private static void head() {
        Reads.inBody("ACTOR 8", "08" + "ff", 3, 0);
        Reads.inBody("ACTOR 255", "ff" + "ff", 3, 0);
        Reads.inBody("SEQ 0", "02" + "00" + "ff", 3, 1);
        Reads.inBody("SEQ 10001", "02" + "914e" + "ff", 3, 2);
        Reads.inBody("SEQ in too many bytes", "02" + "8300" + "ff", 2, 2);
        Reads.inBody("SEQ with 128 in the fifth byte", "02" + "8080808080" + "00", 2, 5);
        Reads.inBody("SEQ above a U", "02" + "8080808008", 2, 5);
        Reads.inBody("COUNTER 0", "0203" + "00" + "ff", 3, 2);
        Reads.inBody("COUNTER 100001", "0203" + "a18d06" + "ff", 3, 4);
        Reads.inBody("COUNTER in too many bytes", "0203" + "8a00" + "ff", 2, 3);
        Reads.inBody("the bit of the own CLOCK", "02030a" + "04" + "07", 3, 3);
        Reads.inBody("all bits of the CLOCK", "02030a" + "ff" + "07", 3, 3);
        Reads.inBody("a CLOCK of 0", "02030a" + "01" + "00" + "00", 3, 4);
        Reads.inBody("a CLOCK of 10001", "02030a" + "01" + "914e" + "00", 3, 5);
        Reads.inBody("a CLOCK in too many bytes", "02030a" + "01" + "8700" + "00", 2, 5);
        Reads.inBody("a later CLOCK of 0", "02030a" + "fb" + "01010101010100" + "01", 3, 10);
        Reads.inBody("no operations", Reads.HEAD + "00" + Reads.PUT_A, 3, 5);
        Reads.inBody("17 operations", Reads.HEAD + "11" + Reads.PUT_A.repeat(17), 3, 5);
        Reads.inBody("how many in too many bytes", Reads.HEAD + "8100" + Reads.PUT_A, 2, 6);
        Reads.inBody("a counter of 100001", "0203" + "a08d06" + "00" + "02" + Reads.PUT_A.repeat(2), 3, 6);
        Reads.inBody("a counter of 100001 at the end", "0203" + "928d06" + "00" + "10" + Reads.PUT_A.repeat(16), 3, 6);
        Reads.fine("the greatest numbers", "07" + "904e" + "a08d06" + "7f" + "904e".repeat(7) + "01" + Reads.PUT_A,
                "-1,7,10000,100000,1,-1,-1,-1,-1," + "10000,".repeat(7) + "9999,-1,[0,0,0,0,800007,97]");
        Reads.fine("the least numbers", "00" + "01" + "01" + "00" + "01" + Reads.PUT_A,
                "-1,0,1,1,1,-1,-1,-1,-1,0,0,0,0,0,0,0,0,-1,[0,0,0,0,8,97]");
        StringBuilder sixteen = new StringBuilder("-1,2,3,99985,16,-1,-1,-1,-1,7,0,2,0,0,0,0,0,-1,");
        for (int k = 0; k < 16; k++) {
            sixteen.append("[0,0,0,0,").append(Make.id(99985 + k, 2)).append(",97]");
        }
        Reads.fine("16 operations up to 100000", "0203" + "918d06" + "0107" + "10" + Reads.PUT_A.repeat(16),
                sixteen.toString());
    }

    private static boolean isHeader(int type, int kind) {
        boolean valued = type == 0 || type == 3 || type == 4;
        return type <= 5 && (kind == 0 || valued && kind <= 6);
    }

    private static void headers() {
        for (int b = 0; b < 256; b++) {
            // A REF with 128 in its fifth byte is the next fault where the header has none.
            boolean is = isHeader(b & 7, b >> 3);
            Reads.inOperation("TYPE + 8 * KIND " + b, Show.hex(b) + "8080808080", is ? 2 : 3, is ? 5 : 0);
        }
    }

    /** From 10 * 8 + 2 the least ID, 8, is 9 back: 73; 10 * 8 + 1 is 2; 9 * 8 is 9, and 10 * 8 is 1. */
    private static void refs() {
        String[] types = {"00", "01", "02", "03", "04", "05"};
        for (String type : types) {
            Reads.inOperation("OBJECT the own ID", type + "03", 3, 1);
            Reads.inOperation("OBJECT of the same counter, another actor", type + "08", 3, 1);
            Reads.inOperation("OBJECT with counter 0", type + "51", 3, 1);
            Reads.inOperation("OBJECT far back", type + "ffffffff07", 3, 5);
            Reads.inOperation("OBJECT above a U", type + "ffffffff08", 2, 5);
            Reads.inOperation("OBJECT in too many bytes", type + "8000", 2, 2);
        }
        for (String type : new String[] {"03", "04", "05"}) {
            Reads.inOperation("KEY the own ID", type + "00" + "03", 3, 2);
            Reads.inOperation("KEY of the same counter, another actor", type + "00" + "08", 3, 2);
            Reads.inOperation("KEY with counter 0", type + "00" + "51", 3, 2);
            Reads.inOperation("KEY in too many bytes", type + "00" + "8100", 2, 3);
            Reads.inOperation("KEY far back", type + "00" + "808001", 3, 4);
        }
        Reads.inOperation("OBJECT 0 for ADD", "020000", 3, 1);
        Reads.inOperation("KEY 0 for SET", "040000", 3, 2);
        Reads.inOperation("KEY 0 for REMOVE", "050000", 3, 2);
        Reads.fineOperation("INSERT at 0", "030000", "3,0,0,0,82,0");
        Reads.fineOperation("the same counter", "050201", "5,81,0,0,82,80");
        Reads.fineOperation("the counter before", "040910", "4,72,0,0,82,79");
        Reads.fineOperation("the least counter", "03504b", "3,15,0,0,82,10");
        Reads.fineOperation("the least ID", "024905", "2,8,0,5,82,0");
    }

    private static void letters() {
        for (String type : new String[] {"00", "01"}) {
            Reads.inOperation("no letters", type + "00" + "00" + "61", 3, 2);
            Reads.inOperation("nine letters", type + "00" + "09" + "61".repeat(9), 3, 2);
            Reads.inOperation("255 letters", type + "00" + "ff" + "61".repeat(9), 3, 2);
            for (String bad : new String[] {"60", "7b", "41", "00", "80", "e1", "ff"}) {
                Reads.inOperation("a bad letter", type + "00" + "01" + bad, 3, 3);
                Reads.inOperation("a bad letter among others", type + "00" + "08" + "617a62" + bad + "61616161", 3, 6);
                Reads.inOperation("a bad last letter", type + "00" + "08" + "617a6263616161" + bad, 3, 10);
            }
        }
        for (String header : new String[] {"18000161", "1b0000", "1c0002"}) {
            int at = header.length() / 2;
            Reads.inOperation("five letters", header + "05" + "61".repeat(5), 3, at);
            Reads.inOperation("255 letters", header + "ff" + "61".repeat(5), 3, at);
            Reads.inOperation("a bad letter", header + "01" + "60", 3, at + 1);
            Reads.inOperation("a bad last letter", header + "04" + "61627a7b", 3, at + 4);
        }
        Reads.fineOperation("eight letters", "0100" + "08" + "7a79787776757473",
                "1,0,0,0,82," + Make.letters("zyxwvuts"));
        Reads.fineOperation("texts", "1800" + "026162" + "04" + "7778797a",
                "0,0,3," + Make.letters("wxyz") + ",82," + Make.letters("ab"));
        Reads.fineOperation("no text", "1b0000" + "00", "3,0,3,0,82,0");
    }

    private static void values() {
        for (String header : new String[] {"08000161", "0b0000", "0c0002"}) {
            int at = header.length() / 2;
            Reads.inOperation("TRUTH 2", header + "02", 3, at);
            Reads.inOperation("TRUTH 255", header + "ff", 3, at);
            Reads.inOperation("TRUTH 128", header + "8100", 3, at);
        }
        for (String header : new String[] {"10000161", "20000161", "130000", "230000", "140002", "240002", "0209"}) {
            int at = header.length() / 2;
            Reads.inOperation("0 in two bytes", header + "8000", 2, at + 1);
            Reads.inOperation("63 in two bytes", header + "bf00", 2, at + 1);
            Reads.inOperation("-1 in two bytes", header + "ff7f", 2, at + 1);
            Reads.inOperation("-64 in two bytes", header + "c07f", 2, at + 1);
            Reads.inOperation("-1 in five bytes", header + "ffffffff7f", 2, at + 4);
            Reads.inOperation("0 in five bytes", header + "8080808000", 2, at + 4);
            Reads.inOperation("2147483648", header + "8080808008", 2, at + 4);
            Reads.inOperation("-2147483649", header + "ffffffff77", 2, at + 4);
            Reads.inOperation("a fifth group of 64", header + "8080808040", 2, at + 4);
            Reads.inOperation("a fifth group of 63", header + "808080803f", 2, at + 4);
            Reads.inOperation("128 in the fifth byte", header + "ffffffffff" + "7f", 2, at + 4);
        }
        String[] bytes = {"00", "3f", "40", "7f", "c000", "bf7f", "ff3f", "8040", "80c000", "ffbf7f", "80808001",
            "ffffff3f", "80808040", "80808080" + "01", "8080808078", "ffffffff07", "ffffffbf7f", "808080c000"};
        int[] numbers = {0, 63, -64, -1, 64, -65, 8191, -8192, 8192, -8193, 2097152, 134217727, -134217728,
            268435456, Integer.MIN_VALUE, Integer.MAX_VALUE, -134217729, 134217728};
        for (int k = 0; k < bytes.length; k++) {
            Reads.fineOperation("INT " + numbers[k], "10000161" + bytes[k], "0,0,2," + numbers[k] + ",82,97");
            Reads.fineOperation("COUNTER " + numbers[k], "230000" + bytes[k], "3,0,4," + numbers[k] + ",82,0");
            Reads.fineOperation("ADD " + numbers[k], "0209" + bytes[k], "2,72,0," + numbers[k] + ",82,0");
        }
        Reads.fineOperation("TRUTH 1", "0c000201", "4,0,1,1,82,81");
        Reads.fineOperation("TRUTH 0", "0c000200", "4,0,1,0,82,81");
        Reads.fineOperation("MAP", "2800016d", "0,0,5,0,82,109");
        Reads.fineOperation("LIST", "330000", "3,0,6,0,82,0");
    }

    /** Of several faults the first one in the order of the bytes is told. */
    private static void firstOfSeveral() {
        Reads.inBody("ACTOR and SEQ", "0800", 3, 0);
        Reads.inBody("SEQ and COUNTER", "020000", 3, 1);
        Reads.fault("a fault ahead of a wrong CHECK", "09" + "0001010001" + "00000141" + "00000000", 3, 9);
        Reads.fault("a fault in a BODY that the INPUT cuts", "7f" + "02030a04", 3, 4);
        Reads.fault("the end of the BODY ahead of the CHECK", "08" + "0001010001" + "00000161" + "00000000", 4, 9);
        Reads.fault("more BODY ahead of the CHECK", "0a" + "0001010001" + "00000161" + "00000000", 4, 10);
        Reads.fault("a second operation of wrong type", Make.framed(Reads.HEAD + "02" + Reads.PUT_A + "06"), 3, 11);
    }

    private static void goingOn() {
        String two = Make.framed(Reads.HEAD + "01" + Reads.PUT_A);
        Codec x = Make.withInput(Reads.FIRST + two + "00");
        Expect.due("the first", x.read(), 0);
        Expect.due("AT", x.look(2), 14);
        Expect.due("actor", x.of(0), 0);
        Expect.due("the second", x.read(), 0);
        Expect.due("AT", x.look(2), 29);
        Expect.due("actor", x.of(0), 2);
        Expect.due("a fault", x.read(), 3);
        Expect.due("AT", x.look(2), 29);
        Expect.due("the change", x.of(0), 2);
        x.cut(29);
        x.read();
        Expect.due("no fault", x.look(3), 0);
        Expect.due("no place", x.look(4), -1);
        x.read();
        x.give(8, 1);
        Expect.due("a fault", x.read(), 1);
        x.cut(0);
        String before = Show.all(x);
        Expect.due("at the end", x.read(), -1);
        Expect.dueUnchanged("read() at the end", x, before);
        x.hangs(5, 50);
        x.add(1, 0, 'r', 0, 0);
        Expect.due("a change that was read goes on", Show.change(x),
                "-1,2,3,10,2,-1,-1,-1,-1,7,0,2,0,0,50,0,0,-1,[0,0,0,0,82,97][1,0,0,0,90,114]");
    }

    /** A fault that comes late in a longer change leaves nothing of it in the next one. */
    private static void noTraces() {
        Codec from = Make.longest();
        from.write();
        String output = Show.output(from);
        Codec x = Make.withInput(output.substring(0, output.length() - 2));
        Expect.due("the CHECK lacks a byte", x.read(), 1);
        Expect.due("no change", x.of(0), -1);
        x.cut(0);
        Make.give(x, Make.bytes(Reads.FIRST));
        Expect.due("read()", x.read(), 0);
        Expect.due("the change", Show.change(x), "-1,0,1,1,1,-1,-1,-1,-1,0,0,0,0,0,0,0,0,-1,[0,0,0,0,8,97]");
    }

    /** What a read() answers does not hang on the one before it: all pairs of these, on one object and on a new one. */
    private static void pairs() {
        String body = "0001010001" + Reads.PUT_A;
        String[] inputs = {"00", "0100", "0108", "0200", "020001", "0300018001", "80", "8080", "808001", "80808001",
            "8080808001", "8080808080", "8900", "e907", "e80700", "08" + body, "09" + body, "0a" + body,
            "09" + body + "00000000", Reads.FIRST, Reads.FIRST + "0100", Make.framed(Reads.HEAD + "01" + Reads.PUT_A)};
        for (String first : inputs) {
            for (String second : inputs) {
                Codec x = Make.withInput(first);
                x.read();
                x.cut(0);
                x.begin(1, 2, 3);
                Make.give(x, Make.bytes(second));
                Codec fresh = Make.withInput(second);
                fresh.begin(1, 2, 3);
                String what = "read() of " + second + " after " + first;
                Expect.due(what, x.read(), fresh.read());
                Expect.due(what, Show.all(x), Show.all(fresh));
            }
        }
    }

    public static void main(String[] args) {
        lengths();
        lackingBytes();
        head();
        headers();
        refs();
        letters();
        values();
        firstOfSeveral();
        goingOn();
        noTraces();
        pairs();
        Expect.end();
    }
}
