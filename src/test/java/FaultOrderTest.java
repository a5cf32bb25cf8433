/** "Terms", READING: of all faults that bytes have, the first one that is seen from byte to byte is told. */
public final class FaultOrderTest {
    private static final String PUT_A = Reads.PUT_A;
    // Nine bytes: ACTOR 0, SEQ 1, COUNTER 1, no bits, one operation.
    private static final String BODY = "0001010001" + PUT_A;
    private static final String CHECK = Make.check(Make.bytes(BODY));

    private static String length(int n) {
        return Make.u(n);
    }

    private static String part(String bytes, int n) {
        return bytes.substring(0, 2 * n);
    }

    /** "the BODY ends where a byte of it is to be read (.. this comes ahead of 1)". */
    private static void bodyEndsAheadOfInput() {
        for (int n = 1; n < 9; n++) {
            Reads.fault("both end behind " + n, length(n) + part(BODY, n), 4, 1 + n);
            Reads.fault("the BODY ends behind " + n, length(n) + BODY, 4, 1 + n);
            Reads.fault("the BODY ends behind " + n + ", one byte follows", length(n) + part(BODY, n) + "61", 4, 1 + n);
            Reads.fault("the INPUT ends one byte ahead", length(n) + part(BODY, n - 1), 1, n);
        }
        Reads.fault("the whole BODY, and no CHECK", length(9) + BODY, 1, 10);
        Reads.fault("a length alone", length(9), 1, 1);
        Reads.fault("the longest length alone", length(1000), 1, 2);
    }

    /** "when all operations are read, it has not ended (the place is behind them)". */
    private static void bodyGoesOn() {
        for (int more : new int[] {1, 2, 4, 100, 991}) {
            Reads.fault("the BODY goes on for " + more, length(9 + more) + BODY, 4, length(9 + more).length() / 2 + 9);
            Reads.fault("it goes on with wrong bytes", length(9 + more) + BODY + "ff".repeat(8), 4,
                    length(9 + more).length() / 2 + 9);
            Reads.fault("it goes on with a right CHECK", length(9 + more) + BODY + CHECK, 4,
                    length(9 + more).length() / 2 + 9);
            if (more <= 100) {
                Reads.inBody("its CHECK is right, too", BODY + "00".repeat(more), 4, 9);
            }
        }
    }

    /** "1 and 4 come where a byte lacks, also in the midst of a number": ahead of 2 and 3 of that number. */
    private static void amidNumbers() {
        // SEQ, COUNTER, a CLOCK, how many operations, an OBJECT, a KEY.
        String[] ahead = {"00", "0001", "00010180", "00010100", "0001010001" + "00", "0001010001" + "0300"};
        for (String start : ahead) {
            for (int n = 1; n <= 4; n++) {
                amidU(start + "80".repeat(n));
                amidU(start + "ff".repeat(n));
            }
        }
        for (int n = 1; n <= 4; n++) {
            Reads.fault("the INPUT ends in the length", "80".repeat(n), 1, n);
            Reads.fault("the INPUT ends in the length", "ff".repeat(n), 1, n);
            String value = "0001010001" + "10000161" + "ff".repeat(n);
            int bytes = value.length() / 2;
            Reads.fault("the BODY ends in an S", length(bytes) + value + "00", 4, 1 + bytes);
            Reads.fault("the INPUT ends in an S", length(bytes + 1) + value, 1, 1 + bytes);
        }
        String letters = "0001010001" + "00" + "00" + "08" + "61".repeat(7);
        Reads.fault("the BODY ends among letters", length(15) + letters + "41", 4, 16);
        Reads.fault("the INPUT ends among letters", length(16) + letters, 1, 16);
    }

    private static void amidU(String body) {
        int bytes = body.length() / 2;
        Reads.fault("the BODY ends in a U", length(bytes) + body + "00", 4, 1 + bytes);
        Reads.fault("BODY and INPUT end in a U", length(bytes) + body, 4, 1 + bytes);
        Reads.fault("the INPUT ends in a U", length(bytes + 1) + body, 1, 1 + bytes);
    }

    /** A fifth byte with 128 in it ends a number there, whatever ends behind it. */
    private static void fifthByteAheadOfTheEnd() {
        Reads.fault("the INPUT ends behind it", "8080808080", 2, 4);
        Reads.fault("the INPUT goes on", "808080808000", 2, 4);
        Reads.fault("BODY and INPUT end behind it", length(6) + "00" + "8080808080", 2, 6);
        Reads.fault("the BODY ends with its fourth", length(5) + "00" + "8080808080", 4, 6);
        Reads.fault("the INPUT ends with its fourth", length(6) + "00" + "80808080", 1, 6);
    }

    /** A number with both faults is none as said: 2 ahead of 3. */
    private static void formAheadOfMeaning() {
        Reads.fault("the length 0 in two bytes", "8000", 2, 1);
        Reads.fault("the length 1001 in three bytes", "e98700", 2, 2);
        Reads.inBody("SEQ 0 in two bytes", "00" + "8000" + "01" + "00" + "01" + PUT_A, 2, 2);
        Reads.inBody("COUNTER 0 in five bytes", "00" + "01" + "8080808000" + "00" + "01" + PUT_A, 2, 6);
        Reads.inBody("a CLOCK of 0 in two bytes", "00" + "01" + "01" + "80" + "8000" + "01" + PUT_A, 2, 5);
        Reads.inBody("no operations in two bytes", "00" + "01" + "01" + "00" + "8000" + PUT_A, 2, 5);
        Reads.inBody("17 operations in two bytes", "00" + "01" + "01" + "00" + "9100" + PUT_A, 2, 5);
        Reads.inBody("OBJECT 0 of ADD in two bytes", "0001010001" + "02" + "8000" + "00", 2, 7);
        Reads.inBody("the own ID in two bytes", "0001010001" + "02" + "8100" + "00", 2, 7);
        Reads.inBody("KEY 0 of SET in two bytes", "0001010001" + "04" + "00" + "8000", 2, 8);
        Reads.inBody("a REF too large for a U", "0001010001" + "02" + "8080808008" + "00", 2, 10);
        Reads.inBody("SEQ too large for a U", "00" + "8080808008" + "01" + "00" + "01" + PUT_A, 2, 5);
    }

    /** "2 and 3 with the last byte of a number": a number that is already too large is read on up to there. */
    private static void lastByteOfNumbers() {
        Reads.fault("the length 16384", "808001", 3, 2);
        Reads.fault("the length 16384, its last byte lacks", "8080", 1, 2);
        Reads.inBody("SEQ 2097152", "00" + Make.u(2097152) + "01", 3, 4);
        Reads.fault("SEQ 2097152, the BODY ends ahead of its last byte", length(4) + "00" + Make.u(2097152), 4, 5);
        Reads.inBody("how many: 2147483647", "00010100" + Make.u(2147483647), 3, 8);
    }

    /** 5 comes last: all else in the bytes of a change is seen ahead of a wrong CHECK. */
    private static void checkIsLast() {
        for (int n = 0; n < 4; n++) {
            Reads.fault(n + " bytes of a right CHECK", length(9) + BODY + part(CHECK, n), 1, 10 + n);
            Reads.fault(n + " bytes of a wrong CHECK", length(9) + BODY + part("00000000", n), 1, 10 + n);
        }
        Reads.fault("four bytes of a wrong CHECK", length(9) + BODY + "00000000", 5, 10);
        Reads.fault("four bytes of a wrong CHECK, one more", length(9) + BODY + "0000000000", 5, 10);
        for (int k = 0; k < 4; k++) {
            byte[] check = Make.bytes(CHECK);
            check[k]++;
            Reads.fault("byte " + k + " of the CHECK is another", length(9) + BODY + Make.hex(check), 5, 10);
        }
        Reads.fault("the CHECK with the highest first", length(9) + BODY + "921a56bb", 5, 10);
        Reads.fault("a fault in the last letter", length(9) + part(BODY, 8) + "60" + CHECK, 3, 9);
        Reads.fault("another letter", length(9) + part(BODY, 8) + "62" + CHECK, 5, 10);
        Reads.fault("another ACTOR", length(9) + "01" + BODY.substring(2) + CHECK, 5, 10);
        Reads.fine("the right CHECK", BODY);
    }

    /** With a fault in each part of its BODY the first is told; when that is mended, the next; at last the CHECK. */
    private static void oneAfterAnother() {
        String[] names = {"ACTOR", "SEQ", "COUNTER", "bits", "CLOCK", "how many", "INSERT of a TEXT", "OBJECT", "KEY",
            "how many letters", "letter", "DROP", "OBJECT", "how many letters", "letter"};
        String good = "02030a010702" + "1b00000161" + "010b017a";
        String bad = "080000040011" + "1e03030560" + "0e03007b";
        for (int k = 0; k < names.length; k++) {
            Reads.inBody(names[k] + " is the first", part(good, k) + bad.substring(2 * k), 3, k);
        }
        Reads.fault("the CHECK is left", length(15) + good + "00000000", 5, 16);
        Reads.fine("no fault is left", good);
    }

    public static void main(String[] args) {
        bodyEndsAheadOfInput();
        bodyGoesOn();
        amidNumbers();
        fifthByteAheadOfTheEnd();
        formAheadOfMeaning();
        lastByteOfNumbers();
        checkIsLast();
        oneAfterAnother();
        Expect.end();
    }
}
