import java.util.ArrayList;
import java.util.List;
import java.util.function.Supplier;

/**
 * "What throws, or answers false or a fault, changes nothing (but the fault and its place)."
 * In many states each call that is refused there is made on one of two like objects; then both are seen to be alike,
 * and to stay so in what comes later, which tells the bytes of the INPUT, too.
 */
public final class RefusedTest {
    private interface Call {
        long on(Codec x);
    }

    /** A query changes nothing whatever it answers; any other call just if it is refused. */
    private record Named(String name, boolean query, Call call) {
        boolean isRefused(String answer) {
            boolean reading = name.equals("read()");
            return query || answer.startsWith("throws") || (reading ? !answer.equals("0") : answer.equals("false"));
        }
    }

    private static final int REFUSED = 0;
    private static final List<Named> CALLS = new ArrayList<>();

    private static void call(String name, Call call) {
        CALLS.add(new Named(name, false, call));
    }

    private static void query(String name, Call call) {
        CALLS.add(new Named(name, true, call));
    }

    private static String answer(Named named, Codec x) {
        try {
            long answer = named.call.on(x);
            boolean truth = named.name.matches("(hangs|undo|give|cut).*");
            return truth ? String.valueOf(answer != REFUSED) : String.valueOf(answer);
        } catch (RuntimeException e) {
            return "throws " + e.getClass().getSimpleName();
        }
    }

    private static void begin(int actor, int seq, int counter) {
        call("begin(" + actor + ", " + seq + ", " + counter + ")", x -> {
            x.begin(actor, seq, counter);
            return 1;
        });
    }

    private static void hangs(int actor, int n) {
        call("hangs(" + actor + ", " + n + ")", x -> x.hangs(actor, n) ? 1 : REFUSED);
    }

    private static void add(int type, int object, long key, int kind, int value) {
        call("add(" + type + ", " + object + ", " + key + ", " + kind + ", " + value + ")",
                x -> x.add(type, object, key, kind, value));
    }

    private static void give(long v, int n) {
        call("give(" + v + ", " + n + ")", x -> x.give(v, n) ? 1 : REFUSED);
    }

    private static void cut(int n) {
        call("cut(" + n + ")", x -> x.cut(n) ? 1 : REFUSED);
    }

    private static void collectChangingCalls() {
        int[][] begins = {{-1, 1, 1}, {8, 1, 1}, {1, 0, 1}, {1, 10001, 1}, {1, 1, 0}, {1, 1, 100001}, {8, 0, 0}};
        for (int[] b : begins) {
            begin(b[0], b[1], b[2]);
        }
        for (int actor = -1; actor <= 8; actor++) {
            hangs(actor, -1);
            hangs(actor, 0);
            hangs(actor, 3);
            hangs(actor, 10001);
        }
        add(0, 0, 'a', 2, 5);
        add(0, 0, 0, 2, 5);
        add(0, 0, 'A', 2, 5);
        add(0, 7, 'a', 2, 5);
        add(0, 900000, 'a', 2, 5);
        add(0, 0, 'a', 7, 0);
        add(0, 0, 'a', 1, 2);
        add(0, 0, 'a', 3, 1);
        add(1, 0, 'a', 0, 1);
        add(2, 0, 0, 0, 1);
        add(2, 8, 1, 0, 1);
        add(3, 0, 900000, 0, 0);
        add(4, 0, 0, 0, 0);
        add(5, 0, 8, 1, 0);
        add(6, 0, 0, 0, 0);
        add(-1, 0, 0, 0, 0);
        call("undo()", x -> x.undo() ? 1 : REFUSED);
        call("write()", x -> x.write());
        for (int n = -1; n <= 9; n++) {
            give(-1, n);
            give(0, n);
        }
        for (int n : new int[] {Integer.MIN_VALUE, -1, 1, 14, 15, 4096, 4097, Integer.MAX_VALUE}) {
            cut(n);
        }
        call("read()", x -> x.read());
    }

    private static void collectQueries() {
        query("size()", x -> x.size());
        for (int w = -1; w <= 16; w++) {
            int part = w;
            query("of(" + w + ")", x -> x.of(part));
            query("look(" + w + ")", x -> x.look(part));
            query("output(" + w + ")", x -> x.output(part));
            query("key(" + w + ")", x -> x.key(part));
            query("operation(" + w + ", 0)", x -> x.operation(part, 0));
            query("operation(0, " + w + ")", x -> x.operation(0, part));
        }
        query("output(4096)", x -> x.output(4096));
    }

    private static Codec three() {
        Codec x = Make.begun(2, 3, 10);
        x.hangs(0, 7);
        x.add(0, 0, 'a', 5, 0);
        x.add(3, 82, 0, 3, (int) Make.letters("xyz"));
        x.add(2, 82, 0, 0, -1000);
        return x;
    }

    private static Codec turnedAndRead() {
        Codec x = three();
        x.write();
        x.undo();
        x.write();
        x.turn();
        x.read();
        x.add(1, 0, 'q', 0, 0);
        return x;
    }

    private static Codec readUpToTheEnd() {
        Codec x = turnedAndRead();
        x.read();
        return x;
    }

    private static Codec withFault(String bytes) {
        Codec x = turnedAndRead();
        x.read();
        Make.give(x, Make.bytes(bytes));
        x.read();
        return x;
    }

    private static Codec bothFull() {
        Codec x = Make.withOutput(4096);
        x.turn();
        x.read();
        x.read();
        return x;
    }

    private static Codec inputAlmostFull() {
        Codec x = Make.withOutput(4092);
        x.turn();
        x.read();
        return x;
    }

    private static Codec undone() {
        Codec x = Make.withInput(Reads.FIRST);
        x.read();
        x.undo();
        return x;
    }

    private static Codec lastCounter() {
        Codec x = Make.begun(2, 3, 100000);
        x.add(0, 0, 'a', 5, 0);
        x.write();
        return x;
    }

    private static String state(Codec x, boolean withFault) {
        String fault = withFault ? x.look(3) + " at " + x.look(4) : "";
        return Show.change(x) + " " + x.look(0) + "," + x.look(1) + "," + x.look(2) + " " + fault + Show.output(x);
    }

    private static void readAll(Codec x, StringBuilder seen) {
        int answer = 0;
        for (int k = 0; k < 300 && answer == 0; k++) {
            answer = x.read();
            seen.append(answer).append(" at ").append(x.look(2)).append(Show.change(x)).append('\n');
        }
    }

    /** What the object does from now on: it tells all that the state's questions leave in the dark. */
    private static String future(Codec x) {
        StringBuilder seen = new StringBuilder();
        seen.append(answer(new Named("write()", false, c -> c.write()), x)).append('\n');
        seen.append(answer(new Named("add", false, c -> c.add(0, 0, 'y', 2, 77)), x)).append('\n');
        seen.append(answer(new Named("size()", false, c -> c.size()), x)).append('\n');
        seen.append(Show.output(x)).append('\n');
        readAll(x, seen);
        seen.append(x.give(0x0E, 1)).append('\n');
        x.cut(x.look(1));
        readAll(x, seen);
        x.turn();
        readAll(x, seen);
        return seen.append(state(x, false)).toString();
    }

    private static void everyCall(String name, Supplier<Codec> made) {
        String before = state(made.get(), true);
        String beforeRead = state(made.get(), false);
        String later = future(made.get());
        for (Named named : CALLS) {
            Codec x = made.get();
            String answer = answer(named, x);
            if (named.isRefused(answer)) {
                boolean faultStays = !named.name.equals("read()") || answer.equals("-1");
                String what = name + ": the state after " + named.name + ", " + answer;
                Expect.due(what, state(x, faultStays), faultStays ? before : beforeRead);
                Expect.due(name + ": what comes after " + named.name + ", " + answer, future(x), later);
            }
        }
    }

    public static void main(String[] args) {
        collectChangingCalls();
        collectQueries();
        everyCall("a new object", Codec::new);
        everyCall("no operations", () -> Make.begun(2, 3, 10));
        everyCall("three operations", RefusedTest::three);
        everyCall("sixteen operations", Make::longest);
        everyCall("the last counter", RefusedTest::lastCounter);
        everyCall("turned and read", RefusedTest::turnedAndRead);
        everyCall("read up to the end", RefusedTest::readUpToTheEnd);
        everyCall("fault 1", () -> withFault("0e00"));
        everyCall("fault 2", () -> withFault("8000"));
        everyCall("fault 3", () -> withFault("00"));
        everyCall("fault 4", () -> withFault("0100" + "01"));
        everyCall("fault 5", () -> withFault("09" + "0001010001" + Reads.PUT_A + "00000000"));
        everyCall("both full", RefusedTest::bothFull);
        everyCall("the INPUT almost full", RefusedTest::inputAlmostFull);
        everyCall("read, and its operation undone", RefusedTest::undone);
        everyCall("bytes of a change, and none begun", () -> Make.withInput(Reads.FIRST + "0908"));
        Expect.end();
    }
}
