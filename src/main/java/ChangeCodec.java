import java.util.Arrays;

/** Changes of documents as bytes, written in one way alone and read again up to the first fault. */
public final class ChangeCodec {
    public static final int NONE = -1;

    private static final int ACTORS = 8;
    private static final int MOST_CHANGES = 10000;
    private static final int MOST_COUNTER = 100000;
    private static final int MOST_OPERATIONS = 16;
    private static final int MOST_KEY_LETTERS = 8;
    private static final int MOST_TEXT_LETTERS = 4;
    private static final int MOST_BODY = 1000;
    private static final int CHECK_BYTES = 4;
    private static final int STREAM_ROOM = 4096;
    // The longest BODY that a change can have is 22 bytes and 18 for each of sixteen operations.
    private static final int BODY_ROOM = 320;

    private static final int PUT = 0;
    private static final int DROP = 1;
    private static final int ADD = 2;
    private static final int INSERT = 3;
    private static final int SET = 4;
    private static final int REMOVE = 5;

    private static final int NULL = 0;
    private static final int TRUTH = 1;
    private static final int INT = 2;
    private static final int TEXT = 3;
    private static final int COUNTER = 4;
    private static final int LIST = 6;

    private static final int INPUT_ENDS = 1;
    private static final int BAD_FORM = 2;
    private static final int BAD_NUMBER = 3;
    private static final int BODY_ENDS = 4;
    private static final int BAD_CHECK = 5;

    private final Bytes written;
    private final Bytes given;
    private final Bytes body;
    private final Reader reader;
    private Change change;
    // Reading fills the draft and trades it for the change at the end, so that a fault leaves the change alone.
    private Change draft;
    private boolean begun;
    private int at;

    public ChangeCodec() {
        written = new Bytes(STREAM_ROOM);
        reader = new Reader();
        given = reader.source;
        body = new Bytes(BODY_ROOM);
        change = new Change();
        draft = new Change();
        begun = false;
        at = 0;
    }

    public void begin(int actor, int seq, int counter) throws IllegalArgumentException {
        if (!Rules.isActor(actor) || !Rules.isSeq(seq) || !Rules.isCounter(counter)) {
            throw new IllegalArgumentException("no such actor, seq or counter");
        }
        change.start(actor, seq, counter);
        begun = true;
    }

    public boolean hangs(int actor, int n) {
        if (!begun || !Rules.isActor(actor) || actor == change.actor || n < 0 || n > MOST_CHANGES) {
            return false;
        }
        change.clock[actor] = n;
        return true;
    }

    public int add(int type, int object, long key, int kind, int value)
            throws IllegalStateException, IllegalArgumentException {
        if (!begun || change.count >= MOST_OPERATIONS) {
            throw new IllegalStateException("no change, or no room in it");
        }
        int own = change.idOf(change.count);
        if (!Rules.isCounter(change.counter + change.count)
                || !Rules.isOperation(own, type, object, key, kind, value)) {
            throw new IllegalArgumentException("no such operation");
        }
        change.append(type, object, key, kind, value);
        return own;
    }

    public boolean undo() {
        if (!hasOperations()) {
            return false;
        }
        change.count--;
        return true;
    }

    public int size() throws IllegalStateException {
        if (!hasOperations()) {
            throw new IllegalStateException("no change, or no operations");
        }
        return measure();
    }

    public int write() throws IllegalStateException, UnsupportedOperationException {
        if (!hasOperations()) {
            throw new IllegalStateException("no change, or no operations");
        }
        if (measure() > written.room()) {
            throw new UnsupportedOperationException("no room in the output");
        }
        written.putU(body.used);
        written.putAll(body);
        written.putLowestFirst(body.checkOf(0, body.used));
        return written.used;
    }

    public void clear() {
        written.used = 0;
    }

    public boolean give(long v, int n) {
        if (n < 1 || n > 8 || n > given.room()) {
            return false;
        }
        given.putHighestFirst(v, n);
        return true;
    }

    public boolean cut(int n) {
        if (n < 0 || n > given.used) {
            return false;
        }
        given.used = n;
        at = 0;
        return true;
    }

    public void turn() {
        given.used = 0;
        given.putAll(written);
        at = 0;
    }

    public int read() {
        if (at >= given.used) {
            return NONE;
        }
        int fault = reader.readChange(draft, at);
        if (fault == 0) {
            tradeDraft();
            at = reader.here;
        }
        return fault;
    }

    public int of(int w) {
        if (!begun) {
            return NONE;
        }
        switch (w) {
            case 0:
                return change.actor;
            case 1:
                return change.seq;
            case 2:
                return change.counter;
            case 3:
                return change.count;
            default:
                return change.clockOf(w - ACTORS);
        }
    }

    public int operation(int i, int w) throws IndexOutOfBoundsException {
        if (!hasOperation(i)) {
            throw new IndexOutOfBoundsException("no such operation");
        }
        switch (w) {
            case 0:
                return change.types[i];
            case 1:
                return change.objects[i];
            case 2:
                return change.kinds[i];
            case 3:
                return change.values[i];
            case 4:
                return change.idOf(i);
            default:
                throw new IndexOutOfBoundsException("no such part of an operation");
        }
    }

    public long key(int i) throws IndexOutOfBoundsException {
        if (!hasOperation(i)) {
            throw new IndexOutOfBoundsException("no such operation");
        }
        return change.keys[i];
    }

    public int output(int k) {
        return written.byteAt(k);
    }

    public int look(int which) {
        switch (which) {
            case 0:
                return written.used;
            case 1:
                return given.used;
            case 2:
                return at;
            case 3:
                return reader.fault;
            case 4:
                return reader.place;
            default:
                return NONE;
        }
    }

    private boolean hasOperations() {
        return begun && change.count > 0;
    }

    private boolean hasOperation(int i) {
        return begun && i >= 0 && i < change.count;
    }

    /** Leaves the change's BODY in the row for it, and answers how many bytes the whole change has. */
    private int measure() {
        body.used = 0;
        change.putHead(body);
        for (int k = 0; k < change.count; k++) {
            change.putOperation(body, k);
        }
        return Bytes.lengthOfU(body.used) + body.used + CHECK_BYTES;
    }

    private void tradeDraft() {
        Change old = change;
        change = draft;
        draft = old;
        begun = true;
    }

    /** What the numbers of a change can be. */
    private static final class Rules {
        static boolean isActor(int actor) {
            return actor >= 0 && actor < ACTORS;
        }

        static boolean isSeq(int seq) {
            return seq >= 1 && seq <= MOST_CHANGES;
        }

        static boolean isCounter(int counter) {
            return counter >= 1 && counter <= MOST_COUNTER;
        }

        static boolean isOperation(int own, int type, int object, long key, int kind, int value) {
            return isHeader(type, kind) && isObject(own, type, object) && isKey(own, type, key)
                    && isValue(type, kind, value);
        }

        static boolean isHeader(int type, int kind) {
            if (type < PUT || type > REMOVE || kind < NULL || kind > LIST) {
                return false;
            }
            return kind == NULL || type == PUT || type == INSERT || type == SET;
        }

        static boolean isObject(int own, int type, int object) {
            return object == 0 ? type != ADD : refersBack(object, own);
        }

        static boolean isKey(int own, int type, long key) {
            switch (type) {
                case PUT:
                case DROP:
                    return countLetters(key) >= 1;
                case ADD:
                    return key == 0;
                case INSERT:
                    return key == 0 || refersBack(key, own);
                default:
                    return refersBack(key, own);
            }
        }

        static boolean isValue(int type, int kind, int value) {
            if (type == ADD) {
                return true;
            }
            switch (kind) {
                case TRUTH:
                    return value == 0 || value == 1;
                case INT:
                case COUNTER:
                    return true;
                case TEXT:
                    return countLetters(lettersOf(value)) != NONE;
                default:
                    return value == 0;
            }
        }

        /** The least ID is 8; the own ID, being one itself, bounds the counter from above. */
        static boolean refersBack(long id, int own) {
            return id >= ACTORS && id < own;
        }

        static boolean isLetter(int letter) {
            return letter >= 'a' && letter <= 'z';
        }

        /** A TEXT as the long that a KEY of the same letters would be. */
        static long lettersOf(int value) {
            return value & 0xFFFFFFFFL;
        }

        /** How many letters there are, or NONE if some byte among them is no letter. */
        static int countLetters(long letters) {
            long rest = letters;
            for (int n = 0; n < MOST_KEY_LETTERS; n++) {
                if (rest == 0) {
                    return n;
                }
                if (!isLetter((int) (rest & 255))) {
                    return NONE;
                }
                rest >>>= 8;
            }
            return MOST_KEY_LETTERS;
        }
    }

    /** A row of bytes with a fixed room, and the ways to write numbers at its end. */
    private static final class Bytes {
        final byte[] cells;
        int used;

        Bytes(int room) {
            cells = new byte[room >= 0 ? room : 0];
            used = 0;
        }

        int room() {
            return cells.length - used;
        }

        int byteAt(int k) {
            return k >= 0 && k < used && k < cells.length ? cells[k] & 255 : NONE;
        }

        void put(int b) {
            if (used >= 0 && used < cells.length) {
                cells[used] = (byte) b;
                used++;
            }
        }

        void putAll(Bytes other) {
            int n = other.used;
            if (n >= 0 && n <= other.cells.length && used >= 0 && n <= room()) {
                System.arraycopy(other.cells, 0, cells, used, n);
                used += n;
            }
        }

        void putU(int number) {
            int rest = number;
            for (int n = lengthOfU(number); n > 1; n--) {
                put((rest & 127) | 128);
                rest >>>= 7;
            }
            put(rest);
        }

        void putS(int number) {
            int rest = number;
            // What still lies in -64 .. 63 is one last group, sign and all.
            for (int n = 1; n < 5 && (rest < -64 || rest > 63); n++) {
                put((rest & 127) | 128);
                rest >>= 7;
            }
            put(rest & 127);
        }

        void putRef(int id, int own) {
            putU(id == 0 ? 0 : (own / ACTORS - id / ACTORS) * ACTORS + id % ACTORS + 1);
        }

        void putLetters(long letters) {
            int n = Rules.countLetters(letters);
            put(n);
            putHighestFirst(letters, n);
        }

        void putHighestFirst(long v, int n) {
            for (int k = n - 1; k >= 0; k--) {
                put((int) (v >>> (8 * k)) & 255);
            }
        }

        void putLowestFirst(int v) {
            for (int k = 0; k < 4; k++) {
                put((v >>> (8 * k)) & 255);
            }
        }

        int checkOf(int from, int to) {
            int c = -1;
            for (int k = from; k < to; k++) {
                c ^= byteAt(k);
                for (int bit = 0; bit < 8; bit++) {
                    c = (c & 1) == 1 ? (c >>> 1) ^ 0xEDB88320 : c >>> 1;
                }
            }
            return ~c;
        }

        static int lengthOfU(int number) {
            int length = 1;
            for (int rest = number >>> 7; rest != 0 && length < 5; rest >>>= 7) {
                length++;
            }
            return length;
        }
    }

    private static final class Change {
        int actor;
        int seq;
        int counter;
        int count;
        final int[] clock;
        final int[] types;
        final int[] objects;
        final long[] keys;
        final int[] kinds;
        final int[] values;

        Change() {
            clock = new int[ACTORS];
            types = new int[MOST_OPERATIONS];
            objects = new int[MOST_OPERATIONS];
            keys = new long[MOST_OPERATIONS];
            kinds = new int[MOST_OPERATIONS];
            values = new int[MOST_OPERATIONS];
        }

        void start(int byActor, int withSeq, int fromCounter) {
            actor = byActor;
            seq = withSeq;
            counter = fromCounter;
            count = 0;
            Arrays.fill(clock, 0);
        }

        /** NONE if there is no such actor. The row holds 0 for the change's own one, as the bytes do. */
        int clockOf(int a) {
            if (!Rules.isActor(a)) {
                return NONE;
            }
            return a == actor ? seq - 1 : clock[a];
        }

        int idOf(int k) {
            return (counter + k) * ACTORS + actor;
        }

        void append(int type, int object, long key, int kind, int value) {
            if (count < 0 || count >= MOST_OPERATIONS) {
                return;
            }
            types[count] = type;
            objects[count] = object;
            keys[count] = key;
            kinds[count] = kind;
            values[count] = value;
            count++;
        }

        /** What the BODY has ahead of the operations. */
        void putHead(Bytes to) {
            to.put(actor);
            to.putU(seq);
            to.putU(counter);
            putClock(to);
            to.putU(count);
        }

        private void putClock(Bytes to) {
            int bits = 0;
            for (int a = 0; a < ACTORS; a++) {
                if (clock[a] > 0) {
                    bits |= 1 << a;
                }
            }
            to.put(bits);
            for (int a = 0; a < ACTORS; a++) {
                if (clock[a] > 0) {
                    to.putU(clock[a]);
                }
            }
        }

        void putOperation(Bytes to, int k) {
            if (k < 0 || k >= MOST_OPERATIONS) {
                return;
            }
            int own = idOf(k);
            to.put(types[k] + 8 * kinds[k]);
            to.putRef(objects[k], own);
            switch (types[k]) {
                case PUT:
                case DROP:
                    to.putLetters(keys[k]);
                    break;
                case INSERT:
                case SET:
                case REMOVE:
                    to.putRef((int) keys[k], own);
                    break;
                default:
                    break;
            }
            putValue(to, types[k], kinds[k], values[k]);
        }

        /** DROP and REMOVE have KIND 0, which has no bytes. */
        private static void putValue(Bytes to, int type, int kind, int value) {
            if (type == ADD || kind == INT || kind == COUNTER) {
                to.putS(value);
            } else if (kind == TRUTH) {
                to.put(value);
            } else if (kind == TEXT) {
                to.putLetters(Rules.lettersOf(value));
            }
        }
    }

    /** Reads one change; after the first fault nothing more is read, so that no later fault hides it. */
    private static final class Reader {
        final Bytes source;
        int here;
        int end;
        int fault;
        int place;

        Reader() {
            source = new Bytes(STREAM_ROOM);
            here = 0;
            end = NONE;
            fault = 0;
            place = NONE;
        }

        /** The fault, 0 if there is none; only then the draft is a change. */
        int readChange(Change draft, int from) {
            here = from;
            end = NONE;
            fault = 0;
            place = NONE;
            int length = readNumber(1, MOST_BODY);
            int start = here;
            end = start + length;
            readHead(draft);
            readClock(draft);
            int count = readCount(draft.counter);
            for (int k = 0; k < count && fault == 0; k++) {
                readOperation(draft, draft.idOf(k));
            }
            if (here != end) {
                fail(BODY_ENDS, here);
            }
            // The CHECK lies behind the BODY, whose end is no bound for it.
            end = NONE;
            readCheck(start);
            return fault;
        }

        private void readHead(Change draft) {
            int actor = readByte(0, ACTORS - 1);
            int seq = readNumber(1, MOST_CHANGES);
            int counter = readNumber(1, MOST_COUNTER);
            draft.start(actor, seq, counter);
        }

        private void readClock(Change draft) {
            int bits = readByte(0, 255);
            if (((bits >>> draft.actor) & 1) == 1) {
                fail(BAD_NUMBER, here - 1);
            }
            for (int a = 0; a < ACTORS && fault == 0; a++) {
                if (((bits >>> a) & 1) == 1) {
                    draft.clock[a] = readNumber(1, MOST_CHANGES);
                }
            }
        }

        private int readCount(int counter) {
            int countersLeft = MOST_COUNTER - counter + 1;
            return readNumber(1, Math.min(MOST_OPERATIONS, countersLeft));
        }

        private void readOperation(Change draft, int own) {
            int header = readByte(0, 255);
            int type = header & 7;
            int kind = header >>> 3;
            if (!Rules.isHeader(type, kind)) {
                fail(BAD_NUMBER, here - 1);
            }
            int object = readRef(own, type != ADD);
            long key = 0;
            if (type == PUT || type == DROP) {
                key = readLetters(1, MOST_KEY_LETTERS);
            } else if (type != ADD) {
                key = readRef(own, type == INSERT);
            }
            int value = readValue(type, kind);
            draft.append(type, object, key, kind, value);
        }

        private int readValue(int type, int kind) {
            if (type == ADD || kind == INT || kind == COUNTER) {
                return readS();
            }
            if (kind == TRUTH) {
                return readByte(0, 1);
            }
            return kind == TEXT ? (int) readLetters(0, MOST_TEXT_LETTERS) : 0;
        }

        private int readRef(int own, boolean orNothing) {
            int ref = readU();
            if (ref == 0) {
                if (!orNothing) {
                    fail(BAD_NUMBER, here - 1);
                }
                return 0;
            }
            int back = (ref - 1) / ACTORS;
            int id = (own / ACTORS - back) * ACTORS + (ref - 1) % ACTORS;
            if (!Rules.refersBack(id, own)) {
                fail(BAD_NUMBER, here - 1);
            }
            return id;
        }

        private long readLetters(int fewest, int most) {
            int n = readByte(fewest, most);
            long letters = 0;
            for (int k = 0; k < n && fault == 0; k++) {
                letters = letters << 8 | readByte('a', 'z');
            }
            return letters;
        }

        private void readCheck(int start) {
            int first = here;
            int check = 0;
            for (int k = 0; k < CHECK_BYTES; k++) {
                check |= next() << (8 * k);
            }
            if (fault == 0 && check != source.checkOf(start, first)) {
                fail(BAD_CHECK, first);
            }
        }

        /** A byte within the bounds; the lower one if there is a fault. */
        private int readByte(int low, int high) {
            int b = next();
            if (b < low || b > high) {
                fail(BAD_NUMBER, here - 1);
            }
            return fault == 0 ? b : low;
        }

        /** A U within the bounds; the lower one if there is a fault. */
        private int readNumber(int low, int high) {
            int number = readU();
            if (number < low || number > high) {
                fail(BAD_NUMBER, here - 1);
            }
            return fault == 0 ? number : low;
        }

        private int readU() {
            int number = 0;
            for (int n = 0; n < 5; n++) {
                int b = next();
                number |= (b & 127) << (7 * n);
                if (b < 128) {
                    // Above 7 the fifth group has bits that a U lacks.
                    if (n > 0 && b == 0 || n == 4 && b > 7) {
                        fail(BAD_FORM, here - 1);
                    }
                    return fault == 0 ? number : 0;
                }
            }
            fail(BAD_FORM, here - 1);
            return 0;
        }

        private int readS() {
            int number = 0;
            int sign = 0;
            for (int n = 0; n < 5; n++) {
                int b = next();
                number |= (b & 127) << (7 * n);
                if (b < 128) {
                    boolean needless = n > 0 && b == (sign == 0 ? 0 : 127);
                    // Between 7 and 120 the fifth group is no run of an int's sign.
                    if (needless || n == 4 && b > 7 && b < 120) {
                        fail(BAD_FORM, here - 1);
                    }
                    return (b & 64) != 0 && n < 4 ? number | -1 << (7 * (n + 1)) : number;
                }
                sign = b & 64;
            }
            fail(BAD_FORM, here - 1);
            return 0;
        }

        /** The next byte; 0 if there is a fault. */
        private int next() {
            if (fault != 0) {
                return 0;
            }
            if (here == end) {
                fail(BODY_ENDS, end);
                return 0;
            }
            int k = here;
            if (k < 0 || k >= source.used || k >= source.cells.length) {
                fail(INPUT_ENDS, source.used);
                return 0;
            }
            here = k + 1;
            return source.cells[k] & 255;
        }

        private void fail(int number, int where) {
            if (fault == 0) {
                fault = number;
                place = where;
            }
        }
    }
}
