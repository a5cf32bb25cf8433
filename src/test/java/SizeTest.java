/** Promise 6: size. */
public final class SizeTest {
    private static int sizeWith(int type, int object, long key, int kind, int value) {
        Codec x = Make.begun(0, 1, 1);
        x.add(0, 0, 'a', 0, 0);
        int before = x.size();
        x.add(type, object, key, kind, value);
        return x.size() - before;
    }

    private static int sizeWithBegin(int actor, int seq, int counter) {
        Codec x = Make.begun(actor, seq, counter);
        x.add(0, 0, 'a', 0, 0);
        return x.size();
    }

    private static void numbers() {
        // A length, an ACTOR, SEQ, COUNTER, bits, how many, an operation of four bytes, the CHECK.
        Expect.due("the shortest", sizeWithBegin(0, 1, 1), 14);
        Expect.due("seq 127", sizeWithBegin(0, 127, 1), 14);
        Expect.due("seq 128", sizeWithBegin(0, 128, 1), 15);
        Expect.due("seq 10000", sizeWithBegin(0, 10000, 1), 15);
        Expect.due("counter 127", sizeWithBegin(0, 1, 127), 14);
        Expect.due("counter 128", sizeWithBegin(0, 1, 128), 15);
        Expect.due("counter 16383", sizeWithBegin(0, 1, 16383), 15);
        Expect.due("counter 16384", sizeWithBegin(0, 1, 16384), 16);
        Expect.due("counter 100000", sizeWithBegin(0, 1, 100000), 16);
        Codec x = Make.begun(2, 1, 1);
        x.add(0, 0, 'a', 0, 0);
        int[] clocks = {0, 1, 127, 128, 10000};
        int[] sizes = {14, 15, 15, 16, 16};
        for (int k = 0; k < clocks.length; k++) {
            x.hangs(5, clocks[k]);
            Expect.due("a clock of " + clocks[k], x.size(), sizes[k]);
        }
    }

    private static void operations() {
        Expect.due("a REF", sizeWith(2, 8, 0, 0, 0), 3);
        Expect.due("eight letters", sizeWith(1, 0, Make.letters("abcdefgh"), 0, 0), 11);
        Expect.due("INSERT at 0", sizeWith(3, 8, 0, 5, 0), 3);
        Expect.due("SET with TRUTH", sizeWith(4, 8, 8, 1, 1), 4);
        Expect.due("REMOVE", sizeWith(5, 8, 8, 0, 0), 3);
        Expect.due("no letters", sizeWith(0, 0, 'a', 3, 0), 5);
        Expect.due("four letters", sizeWith(0, 0, 'a', 3, (int) Make.letters("abcd")), 9);
        int[] edges = {0, 63, 64, 8191, 8192, 1048575, 1048576, 134217727, 134217728, Integer.MAX_VALUE};
        for (int k = 0; k < edges.length; k++) {
            int groups = (k + 2) / 2;
            Expect.due("S of " + edges[k], sizeWith(0, 0, 'a', 2, edges[k]), 4 + groups);
            Expect.due("S of " + ~edges[k], sizeWith(0, 0, 'a', 4, ~edges[k]), 4 + groups);
            Expect.due("S of ADD " + ~edges[k], sizeWith(2, 8, 0, 0, ~edges[k]), 2 + groups);
        }
    }

    /** Sizes of REF round the edges of its groups: back * 8 + actor + 1. */
    private static void refs() {
        Codec x = Make.begun(7, 1, 100000);
        int[] back = {15, 15, 2047, 2047, 99999};
        int[] actor = {6, 7, 6, 7, 7};
        int[] groups = {1, 2, 2, 3, 3};
        for (int k = 0; k < back.length; k++) {
            x.add(5, 0, Make.id(100000 - back[k], actor[k]), 0, 0);
            Expect.due("REF " + back[k] + " back", x.size(), 1 + 7 + 2 + groups[k] + 4);
            x.undo();
        }
    }

    public static void main(String[] args) {
        Codec none = new Codec();
        Expect.dueThrow("size() without a change", none, IllegalStateException.class, () -> none.size());
        Codec bare = Make.begun(1, 1, 1);
        Expect.dueThrow("size() without operations", bare, IllegalStateException.class, () -> bare.size());
        numbers();
        operations();
        refs();
        Codec longest = Make.longest();
        String before = Show.all(longest);
        Expect.due("the longest", longest.size(), 316);
        Expect.dueUnchanged("size()", longest, before);

        // A BODY of 127 bytes has a length of one byte, one of 128 has one of two.
        Codec x = Make.begun(0, 1, 1);
        for (int k = 0; k < 10; k++) {
            x.add(1, 0, Make.letters("abcdefgh"), 0, 0);
        }
        x.add(1, 0, Make.letters("abcdefgh"), 0, 0);
        Expect.due("a BODY of 126", x.size(), 131);
        x.undo();
        x.add(0, 0, Make.letters("abcdefgh"), 1, 0);
        Expect.due("a BODY of 127", x.size(), 132);
        x.undo();
        x.add(0, 0, Make.letters("abcdefgh"), 2, 64);
        Expect.due("a BODY of 128", x.size(), 134);
        Expect.end();
    }
}
