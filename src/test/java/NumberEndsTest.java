/**
 * "Terms", U and S at their ends: each is written in as few bytes as can be, and read in these alone;
 * one byte more than that, too large a number, or 128 in a fifth byte is fault 2 at its last (or that fifth) byte.
 */
public final class NumberEndsTest {
    // The last number of each count of groups, and the first of the next.
    private static final long[] U_ENDS = {0, 1, 127, 128, 16383, 16384, 2097151, 2097152, 268435455, 268435456,
        2147483646, 2147483647};
    private static final long[] S_ENDS = {0, 63, 64, 8191, 8192, 1048575, 1048576, 134217727, 134217728, 2147483647};

    /** A place of a BODY where a U stands: what is ahead of it and behind it, and the bounds that it has there. */
    private record Place(String name, String ahead, String behind, int low, int high) {
        boolean has(long number) {
            return number >= low && number <= high;
        }
    }

    // COUNTER 50000 has REFs of one, two and three bytes: up to the counter 1 of actor 7 it is 399992 + 8.
    private static final String FAR = "03" + "01" + Make.u(50000) + "00" + "01";
    private static final int FAR_REF = 49999 * 8 + 8;
    private static final Place[] PLACES = {
        new Place("SEQ", "03", "05" + "00" + "01" + Reads.PUT_A, 1, 10000),
        new Place("COUNTER", "03" + "01", "00" + "01" + Reads.PUT_A, 1, 100000),
        new Place("a CLOCK", "03" + "01" + "05" + "40", "01" + Reads.PUT_A, 1, 10000),
        new Place("how many operations", "03" + "01" + "05" + "00", Reads.PUT_A, 1, 1),
        new Place("OBJECT of PUT", FAR + "00", "0161", 0, FAR_REF),
        new Place("OBJECT of ADD", FAR + "02", "00", 1, FAR_REF),
        new Place("KEY of INSERT", FAR + "03" + "00", "", 0, FAR_REF),
        new Place("KEY of SET", FAR + "04" + "00", "", 1, FAR_REF),
        new Place("KEY of REMOVE", FAR + "05" + "00", "", 1, FAR_REF),
    };

    /** The own ID and those above it with the same counter are no REFs, though they lie within the bounds. */
    private static boolean isOwnOrAbove(Place place, long number) {
        return place.high == FAR_REF && number >= 4 && number <= 8;
    }

    /** Two to sixteen operations can be, but the bytes behind this place are those of one. */
    private static boolean wantsMoreBytes(Place place, long number) {
        return place.high == 1 && number >= 2 && number <= 16;
    }

    private static void inPlace(Place place, long number) {
        String u = Make.u(number);
        String what = place.name + " " + number;
        if (wantsMoreBytes(place, number)) {
            return;
        }
        int last = (place.ahead + u).length() / 2 - 1;
        if (place.has(number) && !isOwnOrAbove(place, number)) {
            Reads.fine(what, place.ahead + u + place.behind);
        } else {
            Reads.inBody(what, place.ahead + u + place.behind, 3, last);
        }
        for (int more = 1; u.length() / 2 + more <= 5; more++) {
            Reads.inBody(what + " in " + more + " bytes more", place.ahead + Make.padded(u, more, 0) + place.behind,
                    2, last + more);
        }
    }

    /** The ends of U where it stands in a BODY, and of what the number can be there. */
    private static void unsigned() {
        for (Place place : PLACES) {
            for (long end : U_ENDS) {
                inPlace(place, end);
            }
            for (long bound : new long[] {place.low, place.low + 1L, place.high - 1L, place.high, place.high + 1L}) {
                inPlace(place, bound);
            }
            tooLarge(place.name, place.ahead, place.behind);
        }
    }

    /** 2147483648 and more, and a fifth byte with 128 in it. */
    private static void tooLarge(String name, String ahead, String behind) {
        int fifth = ahead.length() / 2 + 4;
        for (long number : new long[] {2147483648L, 4294967295L, 4294967296L, (1L << 35) - 1}) {
            Reads.inBody(name + " " + number, ahead + Make.u(number) + behind, 2, fifth);
        }
        for (String start : new String[] {"80808080", "ffffffff", "81828384"}) {
            for (String last : new String[] {"80", "81", "87", "ff"}) {
                Reads.inBody(name + " with 128 in the fifth byte", ahead + start + last + "00" + behind, 2, fifth);
                Reads.inBody(name + " that ends with it", ahead + start + last, 2, fifth);
            }
        }
    }

    /** The length is a U outside of the BODY; from 1 to 1000 no fault is in it. */
    private static void lengths() {
        for (long end : U_ENDS) {
            length(end);
        }
        for (long bound : new long[] {2, 999, 1000, 1001, 1002}) {
            length(bound);
        }
        for (String start : new String[] {"80808080", "ffffffff", "89808080"}) {
            for (int last = 0; last < 256; last++) {
                // A last 0 is not as few bytes, 1 to 7 a number above 1000, all others are no U.
                Reads.fault("the length " + start + Show.hex(last), start + Show.hex(last),
                        last >= 1 && last <= 7 ? 3 : 2, 4);
            }
        }
    }

    private static void length(long number) {
        String u = Make.u(number);
        int bytes = u.length() / 2;
        boolean can = number >= 1 && number <= 1000;
        // The byte behind the length is no ACTOR: it is looked at only if the length has no fault.
        Reads.fault("the length " + number, u + "08", 3, can ? bytes : bytes - 1);
        for (int more = 1; bytes + more <= 5; more++) {
            Reads.fault("the length " + number + " in " + more + " bytes more", Make.padded(u, more, 0) + "08", 2,
                    bytes + more - 1);
        }
    }

    private static final String[] SIGNED = {"10" + "00" + "0161", "20" + "00" + "0161", "13" + "00" + "00",
        "23" + "00" + "00", "14" + "00" + "02", "24" + "00" + "02", "02" + "09"};

    /** The ends of S where it stands: INT and COUNTER of PUT, INSERT and SET, and ADD. */
    private static void signed() {
        for (String ahead : SIGNED) {
            for (int k = 0; k < S_ENDS.length; k++) {
                int groups = (k + 2) / 2;
                signedNumber(ahead, S_ENDS[k], groups);
                signedNumber(ahead, ~S_ENDS[k], groups);
            }
            tooLargeSigned(ahead);
        }
    }

    private static void signedNumber(String ahead, long number, int groups) {
        String s = Make.s(number);
        Expect.due("groups of " + number, s.length() / 2, groups);
        Reads.fine("S " + number, Reads.HEAD + "01" + ahead + s);
        int last = (ahead + s).length() / 2 - 1;
        for (int more = 1; groups + more <= 5; more++) {
            Reads.inOperation("S " + number + " in " + more + " bytes more",
                    ahead + Make.padded(s, more, number < 0 ? 127 : 0), 2, last + more);
        }
    }

    private static void tooLargeSigned(String ahead) {
        int fifth = ahead.length() / 2 + 4;
        for (long number : new long[] {2147483648L, 4294967295L, 4294967296L, (1L << 34) - 1}) {
            Reads.inOperation("S " + number, ahead + Make.s(number), 2, fifth);
            Reads.inOperation("S " + ~number, ahead + Make.s(~number), 2, fifth);
        }
        for (int last = 128; last < 256; last++) {
            Reads.inOperation("S with 128 in the fifth byte", ahead + "80c08080" + Show.hex(last) + "00", 2, fifth);
        }
    }

    /** Of all fifth bytes 0 .. 7 and 120 .. 127 alone go on with an int, if they say something new. */
    private static void fifthGroups() {
        for (int last = 0; last < 128; last++) {
            fifthGroup("80808080", last, last >= 1 && last <= 7 || last >= 120);
            fifthGroup("808080c0", last, last <= 7 || last >= 120 && last <= 126);
        }
    }

    private static void fifthGroup(String start, int last, boolean can) {
        String s = start + Show.hex(last);
        if (can) {
            Reads.fine("S " + s, Reads.HEAD + "01" + "10000161" + s);
        } else {
            Reads.inOperation("S " + s, "10000161" + s, 2, 8);
        }
    }

    /** Every S of one and two bytes: of one byte all are as said; of two those that say something new. */
    private static void shortOnes() {
        for (int first = 0; first < 128; first++) {
            Reads.fine("S " + first, Reads.HEAD + "01" + "10000161" + Show.hex(first));
        }
        for (int first = 128; first < 256; first += 21) {
            for (int last = 0; last < 128; last++) {
                String s = Show.hex(first) + Show.hex(last);
                boolean negative = (first & 64) != 0;
                if (last == (negative ? 127 : 0)) {
                    Reads.inOperation("S " + s, "10000161" + s, 2, 5);
                } else {
                    Reads.fine("S " + s, Reads.HEAD + "01" + "10000161" + s);
                }
            }
        }
    }

    /** What write() makes of each end, byte for byte. */
    private static void written() {
        for (int k = 0; k < S_ENDS.length; k++) {
            writtenValue((int) S_ENDS[k]);
            writtenValue((int) ~S_ENDS[k]);
        }
        for (int number : new int[] {1, 127, 128, 9999, 10000}) {
            Codec x = Make.begun(3, number, 5);
            x.hangs(6, number);
            x.add(0, 0, 'a', 0, 0);
            due(x, "03" + Make.u(number) + "05" + "40" + Make.u(number) + "01" + Reads.PUT_A);
        }
        for (int counter : new int[] {1, 127, 128, 16383, 16384, 99999, 100000}) {
            Codec x = Make.begun(3, 1, counter);
            x.add(0, 0, 'a', 0, 0);
            due(x, "03" + "01" + Make.u(counter) + "00" + "01" + Reads.PUT_A);
        }
        int own = Make.id(50000, 3);
        for (int ref : new int[] {1, 2, 3, 9, 126, 127, 128, 129, 16383, 16384, FAR_REF}) {
            int id = (50000 - (ref - 1) / 8) * 8 + (ref - 1) % 8;
            Expect.due("REF " + ref, Make.ref(id, own), Make.u(ref));
            Codec x = Make.begun(3, 1, 50000);
            x.add(4, id, id, 0, 0);
            due(x, FAR + "04" + Make.u(ref) + Make.u(ref));
        }
    }

    private static void writtenValue(int value) {
        Codec x = Make.begun(3, 1, 50000);
        x.add(3, 0, 0, 2, value);
        due(x, FAR + "13" + "0000" + Make.s(value));
        x.clear();
        x.undo();
        x.add(2, 8, 0, 0, value);
        due(x, FAR + "02" + Make.ref(8, Make.id(50000, 3)) + Make.s(value));
    }

    private static void due(Codec x, String body) {
        String framed = Make.framed(body);
        Expect.due("size()", x.size(), framed.length() / 2);
        Expect.due("write()", x.write(), framed.length() / 2);
        Expect.due("the bytes", Show.output(x), framed);
    }

    public static void main(String[] args) {
        unsigned();
        lengths();
        signed();
        fifthGroups();
        shortOnes();
        written();
        Expect.end();
    }
}
