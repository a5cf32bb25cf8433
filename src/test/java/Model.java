import java.math.BigInteger;
import java.util.ArrayList;
import java.util.List;
import java.util.zip.CRC32;

/** A second program for the document, with lists and exceptions, that the first is compared with. */
final class Model {
    private static final class Fault extends Exception {
        private static final long serialVersionUID = 1L;
        final int number;
        final int place;

        Fault(int number, int place) {
            this.number = number;
            this.place = place;
        }
    }

    private record Operation(int type, int object, long key, int kind, int value) {
    }

    private static final class Change {
        int actor;
        int seq;
        int counter;
        int[] clock = new int[8];
        List<Operation> operations = new ArrayList<>();

        int id(int k) {
            return (counter + k) * 8 + actor;
        }
    }

    private Change change;
    private List<Integer> output = new ArrayList<>();
    private List<Integer> input = new ArrayList<>();
    private int at = 0;
    private int fault = 0;
    private int place = -1;

    void begin(int actor, int seq, int counter) {
        if (outside(actor, 0, 7) || outside(seq, 1, 10000) || outside(counter, 1, 100000)) {
            throw new IllegalArgumentException();
        }
        change = new Change();
        change.actor = actor;
        change.seq = seq;
        change.counter = counter;
        change.clock[actor] = seq - 1;
    }

    boolean hangs(int actor, int n) {
        if (change == null || outside(actor, 0, 7) || actor == change.actor || outside(n, 0, 10000)) {
            return false;
        }
        change.clock[actor] = n;
        return true;
    }

    int add(int type, int object, long key, int kind, int value) {
        if (change == null || change.operations.size() == 16) {
            throw new IllegalStateException();
        }
        int own = change.id(change.operations.size());
        Operation operation = new Operation(type, object, key, kind, value);
        if (own >= 100001 * 8 || !isOne(operation, own)) {
            throw new IllegalArgumentException();
        }
        change.operations.add(operation);
        return own;
    }

    boolean undo() {
        if (change == null || change.operations.isEmpty()) {
            return false;
        }
        change.operations.remove(change.operations.size() - 1);
        return true;
    }

    int size() {
        return bytes().size();
    }

    int write() {
        List<Integer> more = bytes();
        if (output.size() + more.size() > 4096) {
            throw new UnsupportedOperationException();
        }
        output.addAll(more);
        return output.size();
    }

    void clear() {
        output.clear();
    }

    boolean give(long v, int n) {
        if (outside(n, 1, 8) || input.size() + n > 4096) {
            return false;
        }
        for (int k = 0; k < n; k++) {
            input.add((int) (v >> 8 * (n - 1 - k)) & 255);
        }
        return true;
    }

    boolean cut(int n) {
        if (outside(n, 0, input.size())) {
            return false;
        }
        input = new ArrayList<>(input.subList(0, n));
        at = 0;
        return true;
    }

    void turn() {
        input = new ArrayList<>(output);
        at = 0;
    }

    int read() {
        if (at == input.size()) {
            return -1;
        }
        try {
            change = new Reading().change();
            fault = 0;
            place = -1;
        } catch (Fault f) {
            fault = f.number;
            place = f.place;
        }
        return fault;
    }

    int of(int w) {
        if (change == null) {
            return -1;
        }
        if (w >= 8 && w <= 15) {
            return change.clock[w - 8];
        }
        int[] parts = {change.actor, change.seq, change.counter, change.operations.size()};
        return outside(w, 0, 3) ? -1 : parts[w];
    }

    int operation(int i, int w) {
        Operation o = at(i);
        int[] parts = {o.type, o.object, o.kind, o.value, change.id(i)};
        if (outside(w, 0, 4)) {
            throw new IndexOutOfBoundsException();
        }
        return parts[w];
    }

    long key(int i) {
        return at(i).key;
    }

    int output(int k) {
        return outside(k, 0, output.size() - 1) ? -1 : output.get(k);
    }

    int look(int which) {
        int[] parts = {output.size(), input.size(), at, fault, place};
        return outside(which, 0, 4) ? -1 : parts[which];
    }

    private Operation at(int i) {
        if (change == null || outside(i, 0, change.operations.size() - 1)) {
            throw new IndexOutOfBoundsException();
        }
        return change.operations.get(i);
    }

    private static boolean outside(long n, long low, long high) {
        return n < low || n > high;
    }

    private static String textOf(long letters) {
        StringBuilder text = new StringBuilder();
        for (int k = 7; k >= 0; k--) {
            int b = (int) (letters >>> 8 * k) & 255;
            if (b != 0 || text.length() > 0) {
                text.append((char) b);
            }
        }
        return text.toString();
    }

    private static boolean isOne(Operation o, int own) {
        boolean idKey = !outside(o.key, 8, own - 1);
        boolean valued = List.of(0, 3, 4).contains(o.type);
        String letters = textOf(o.key);
        String text = textOf(Integer.toUnsignedLong(o.value));
        boolean object = !outside(o.object, 8, own - 1) || o.object == 0 && o.type != 2;
        boolean[] keys = {letters.matches("[a-z]{1,8}"), letters.matches("[a-z]{1,8}"), o.key == 0,
            idKey || o.key == 0, idKey, idKey};
        boolean zero = o.value == 0;
        boolean[] values = {zero, zero || o.value == 1, true, text.matches("[a-z]{0,4}"), true, zero, zero};
        if (outside(o.type, 0, 5) || outside(o.kind, 0, valued ? 6 : 0)) {
            return false;
        }
        return object && keys[o.type] && (o.type == 2 || values[o.kind]);
    }

    private static void putU(List<Integer> to, int number) {
        if (number < 128) {
            to.add(number);
        } else {
            to.add(number % 128 + 128);
            putU(to, number / 128);
        }
    }

    private static void putS(List<Integer> to, long number) {
        int groups = BigInteger.valueOf(number).bitLength() / 7 + 1;
        for (int k = 0; k < groups; k++) {
            to.add((int) (number >> 7 * k & 127) + (k < groups - 1 ? 128 : 0));
        }
    }

    private static void putRef(List<Integer> to, long id, int own) {
        putU(to, id == 0 ? 0 : (int) ((own / 8 - id / 8) * 8 + id % 8 + 1));
    }

    private static void putText(List<Integer> to, String text) {
        to.add(text.length());
        text.chars().forEach(to::add);
    }

    private static int check(List<Integer> body) {
        CRC32 crc = new CRC32();
        body.forEach(b -> crc.update(b));
        return (int) crc.getValue();
    }

    private List<Integer> bytes() {
        if (change == null || change.operations.isEmpty()) {
            throw new IllegalStateException();
        }
        List<Integer> body = body();
        List<Integer> all = new ArrayList<>();
        putU(all, body.size());
        all.addAll(body);
        int check = check(body);
        for (int k = 0; k < 4; k++) {
            all.add(check >> 8 * k & 255);
        }
        return all;
    }

    private List<Integer> body() {
        List<Integer> body = new ArrayList<>();
        body.add(change.actor);
        putU(body, change.seq);
        putU(body, change.counter);
        List<Integer> clocks = new ArrayList<>();
        int bits = 0;
        for (int a = 0; a < 8; a++) {
            if (a != change.actor && change.clock[a] != 0) {
                bits += 1 << a;
                putU(clocks, change.clock[a]);
            }
        }
        body.add(bits);
        body.addAll(clocks);
        putU(body, change.operations.size());
        for (int k = 0; k < change.operations.size(); k++) {
            putOperation(body, change.operations.get(k), change.id(k));
        }
        return body;
    }

    private static void putOperation(List<Integer> to, Operation o, int own) {
        to.add(o.type + 8 * o.kind);
        putRef(to, o.object, own);
        if (o.type < 2) {
            putText(to, textOf(o.key));
        } else if (o.type > 2) {
            putRef(to, o.key, own);
        }
        if (o.type == 1 || o.type == 5) {
            return;
        }
        if (o.type == 2 || o.kind == 2 || o.kind == 4) {
            putS(to, o.value);
        } else if (o.kind == 1) {
            to.add(o.value);
        } else if (o.kind == 3) {
            putText(to, textOf(o.value));
        }
    }

    private final class Reading {
        private int next = at;
        private int end = Integer.MAX_VALUE;

        Change change() throws Fault {
            Change made = new Change();
            int length = numberOf(1, 1000);
            int start = next;
            end = next + length;
            made.actor = byteOf(0, 7);
            made.seq = numberOf(1, 10000);
            made.counter = numberOf(1, 100000);
            int bits = byteOf(0, 255);
            require((bits >> made.actor) % 2 == 0);
            for (int a = 0; a < 8; a++) {
                made.clock[a] = (bits >> a) % 2 == 1 ? numberOf(1, 10000) : 0;
            }
            made.clock[made.actor] = made.seq - 1;
            int count = numberOf(1, 16);
            require(made.counter + count <= 100001);
            for (int k = 0; k < count; k++) {
                made.operations.add(operation(made.id(k)));
            }
            if (next < end) {
                throw new Fault(4, next);
            }
            end = Integer.MAX_VALUE;
            int place = next;
            int check = oneByte() + (oneByte() << 8) + (oneByte() << 16) + (oneByte() << 24);
            if (check != check(input.subList(start, place))) {
                throw new Fault(5, place);
            }
            at = next;
            return made;
        }

        private Operation operation(int own) throws Fault {
            int header = byteOf(0, 53);
            int type = header % 8;
            int kind = header / 8;
            require(type < 6 && (kind == 0 || type == 0 || type == 3 || type == 4));
            int object = ref(own);
            require(type != 2 || object != 0);
            long key = 0;
            if (type < 2) {
                key = text(1, 8);
            } else if (type > 2) {
                key = ref(own);
                require(type == 3 || key != 0);
            }
            int value = 0;
            if (type == 2 || kind == 2 || kind == 4) {
                value = (int) signed();
            } else if (kind == 1) {
                value = byteOf(0, 1);
            } else if (kind == 3) {
                value = (int) text(0, 4);
            }
            return new Operation(type, object, key, kind, value);
        }

        private void require(boolean can) throws Fault {
            if (!can) {
                throw new Fault(3, next - 1);
            }
        }

        private int oneByte() throws Fault {
            if (next == end) {
                throw new Fault(4, end);
            }
            if (next == input.size()) {
                throw new Fault(1, next);
            }
            return input.get(next++);
        }

        private int byteOf(int low, int high) throws Fault {
            int b = oneByte();
            require(!outside(b, low, high));
            return b;
        }

        private int numberOf(int low, int high) throws Fault {
            int number = unsigned();
            require(!outside(number, low, high));
            return number;
        }

        /** The groups of a number, the lowest first. */
        private List<Integer> groups() throws Fault {
            List<Integer> made = new ArrayList<>();
            int b;
            do {
                b = oneByte();
                made.add(b);
                if (made.size() == 5 && b >= 128) {
                    throw new Fault(2, next - 1);
                }
            } while (b >= 128);
            return made;
        }

        /** Only the bytes that writing the number would give are as said. */
        private void requireForm(List<Integer> groups, List<Integer> due, boolean can) throws Fault {
            if (!can || !groups.equals(due)) {
                throw new Fault(2, next - 1);
            }
        }

        private int unsigned() throws Fault {
            List<Integer> groups = groups();
            long number = 0;
            for (int k = 0; k < groups.size(); k++) {
                number += (groups.get(k) % 128L) << 7 * k;
            }
            List<Integer> due = new ArrayList<>();
            putU(due, (int) Math.min(number, Integer.MAX_VALUE));
            requireForm(groups, due, number <= Integer.MAX_VALUE);
            return (int) number;
        }

        private long signed() throws Fault {
            List<Integer> groups = groups();
            long number = 0;
            for (int k = 0; k < groups.size(); k++) {
                number += (groups.get(k) % 128L) << 7 * k;
            }
            if (groups.get(groups.size() - 1) >= 64) {
                number -= 1L << 7 * groups.size();
            }
            List<Integer> due = new ArrayList<>();
            putS(due, number);
            requireForm(groups, due, number == (int) number);
            return number;
        }

        private int ref(int own) throws Fault {
            long ref = unsigned();
            if (ref == 0) {
                return 0;
            }
            long counter = own / 8 - (ref - 1) / 8;
            long id = counter * 8 + (ref - 1) % 8;
            require(counter >= 1 && id < own);
            return (int) id;
        }

        private long text(int fewest, int most) throws Fault {
            int n = byteOf(fewest, most);
            long made = 0;
            for (int k = 0; k < n; k++) {
                made = made * 256 + byteOf('a', 'z');
            }
            return made;
        }
    }
}
