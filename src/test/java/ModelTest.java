import java.util.function.LongSupplier;

/** Runs of up to 512 calls on new objects, with every answer compared to the model's. */
public final class ModelTest {
    private static final int CALLS = 512;

    private final Numbers numbers;
    private final String run;
    private final Codec codec = new Codec();
    private final Model model = new Model();
    private int calls = 0;

    private ModelTest(String kind, int seed) {
        numbers = new Numbers(seed);
        run = kind + " run " + seed + " call ";
    }

    /** The same numbers for the same seed, so that a run that fails can be made again. */
    private static final class Numbers {
        private long state;

        Numbers(int seed) {
            state = seed * 0x9E3779B97F4A7C15L + 1;
        }

        int below(int n) {
            state = state * 6364136223846793005L + 1442695040888963407L;
            return (int) ((state >>> 33) % n);
        }

        int between(int low, int high) {
            return low + below(high - low + 1);
        }

        boolean once(int in) {
            return below(in) == 0;
        }

        int any() {
            return below(1 << 16) << 16 | below(1 << 16);
        }

        int pick(int... from) {
            return from[below(from.length)];
        }

        /** Mostly within the bounds, and often at them; now and then outside. */
        int near(int low, int high) {
            switch (below(12)) {
                case 0:
                    return pick(low - 1, high + 1, -1, Integer.MIN_VALUE, Integer.MAX_VALUE, any());
                case 1:
                case 2:
                    return pick(low, high);
                default:
                    return between(low, high);
            }
        }

        int someInt() {
            return any() >> below(32);
        }

        long letters(int fewest, int most) {
            long made = 0;
            for (int n = between(fewest, most); n > 0; n--) {
                made = made << 8 | (once(60) ? pick('`', '{', 0, 200) : between('a', 'z'));
            }
            return made;
        }
    }

    private boolean has() {
        return calls < CALLS;
    }

    private String both(String call, LongSupplier ours, LongSupplier due) {
        calls++;
        String want = Show.answerOf(due);
        Expect.due(run + calls + ": " + call, Show.answerOf(ours), want);
        return want;
    }

    private static long one(boolean answer) {
        return answer ? 1 : 0;
    }

    private void begin(int actor, int seq, int counter) {
        both("begin(" + actor + ", " + seq + ", " + counter + ")", () -> {
            codec.begin(actor, seq, counter);
            return 0;
        }, () -> {
            model.begin(actor, seq, counter);
            return 0;
        });
    }

    private void hangs(int actor, int n) {
        both("hangs(" + actor + ", " + n + ")", () -> one(codec.hangs(actor, n)), () -> one(model.hangs(actor, n)));
    }

    private void add(int type, int object, long key, int kind, int value) {
        both("add(" + type + ", " + object + ", " + key + ", " + kind + ", " + value + ")",
                () -> codec.add(type, object, key, kind, value), () -> model.add(type, object, key, kind, value));
    }

    private void give(long v, int n) {
        both("give(" + v + ", " + n + ")", () -> one(codec.give(v, n)), () -> one(model.give(v, n)));
    }

    private void cut(int n) {
        both("cut(" + n + ")", () -> one(codec.cut(n)), () -> one(model.cut(n)));
    }

    private void turn() {
        both("turn()", () -> {
            codec.turn();
            return 0;
        }, () -> {
            model.turn();
            return 0;
        });
    }

    private void clear() {
        both("clear()", () -> {
            codec.clear();
            return 0;
        }, () -> {
            model.clear();
            return 0;
        });
    }

    private void read() {
        both("read()", codec::read, model::read);
        look(3);
        look(4);
        look(2);
    }

    private void look(int which) {
        both("look(" + which + ")", () -> codec.look(which), () -> model.look(which));
    }

    private void beginSome() {
        begin(numbers.near(0, 7), numbers.near(1, 10000), numbers.pick(
                numbers.near(1, 100000), numbers.near(99980, 100000), numbers.near(1, 20)));
    }

    private int someId() {
        int own = (model.of(2) + Math.max(0, model.of(3))) * 8 + model.of(0);
        int low = Math.max(8, own - numbers.pick(10, 200, 20000, 900000));
        return own > low ? numbers.near(low, own - 1) : numbers.near(8, 100);
    }

    private int someValue(int kind) {
        if (kind == 1) {
            return numbers.near(0, 1);
        }
        if (kind == 3) {
            return (int) numbers.letters(0, 4);
        }
        return kind == 2 || kind == 4 || numbers.once(20) ? numbers.someInt() : 0;
    }

    private void addSome() {
        int type = numbers.near(0, 5);
        boolean valued = type == 0 || type == 3 || type == 4;
        int kind = valued ? numbers.near(0, 6) : numbers.once(20) ? numbers.near(0, 6) : 0;
        int value = type == 2 ? numbers.someInt() : someValue(kind);
        int object = numbers.once(3) && type != 2 ? 0 : someId();
        long key = type == 0 || type == 1 ? numbers.letters(1, 8) : type == 2 ? 0 : someId();
        if (numbers.once(type == 3 ? 3 : 30)) {
            key = 0;
        }
        if (numbers.once(40)) {
            key |= (long) numbers.any() << 32;
        }
        add(type, object, key, kind, value);
    }

    private void askSome() {
        int i = numbers.near(0, Math.max(0, model.of(3) - 1));
        int w = numbers.near(0, 15);
        int part = numbers.near(0, 4);
        int k = numbers.near(0, Math.max(0, model.look(0) - 1));
        both("of(" + w + ")", () -> codec.of(w), () -> model.of(w));
        both("operation(" + i + ", " + part + ")", () -> codec.operation(i, part), () -> model.operation(i, part));
        both("key(" + i + ")", () -> codec.key(i), () -> model.key(i));
        both("output(" + k + ")", () -> codec.output(k), () -> model.output(k));
        look(part);
    }

    private void step() {
        switch (numbers.below(20)) {
            case 0:
                beginSome();
                break;
            case 1:
            case 2:
                hangs(numbers.near(0, 7), numbers.near(0, numbers.pick(10000, 127, 1)));
                break;
            case 3:
                both("undo()", () -> one(codec.undo()), () -> one(model.undo()));
                break;
            case 4:
                both("size()", codec::size, model::size);
                break;
            case 5:
            case 6:
                both("write()", codec::write, model::write);
                break;
            case 7:
                if (numbers.once(8)) {
                    clear();
                }
                break;
            case 8:
                give((long) numbers.any() << 32 | numbers.any() & 0xFFFFFFFFL, numbers.near(1, 8));
                break;
            case 9:
                cut(numbers.near(0, model.look(1)));
                break;
            case 10:
                turn();
                break;
            case 11:
            case 12:
                read();
                break;
            case 13:
                askSome();
                break;
            default:
                addSome();
                break;
        }
    }

    private void compareAll() {
        for (int w = 0; w < 16; w++) {
            Expect.due(run + "at the end: of(" + w + ")", codec.of(w), model.of(w));
        }
        for (int i = 0; i < model.of(3) && i < codec.of(3); i++) {
            for (int w = 0; w < 5; w++) {
                Expect.due(run + "at the end: operation(" + i + ", " + w + ")", codec.operation(i, w),
                        model.operation(i, w));
            }
            Expect.due(run + "at the end: key(" + i + ")", codec.key(i), model.key(i));
        }
        for (int k = 0; k <= model.look(0); k++) {
            Expect.due(run + "at the end: output(" + k + ")", codec.output(k), model.output(k));
        }
        for (int which = 0; which < 5; which++) {
            Expect.due(run + "at the end: look(" + which + ")", codec.look(which), model.look(which));
        }
    }

    /** A change is written; then its bytes come back with some gone wrong, mostly under a right CHECK. */
    private void brokenBytes() {
        while (model.of(0) < 0) {
            beginSome();
        }
        for (int n = numbers.below(4); n > 0; n--) {
            hangs(numbers.below(8), numbers.near(1, 10000));
        }
        for (int n = numbers.between(1, 5); n > 0; n--) {
            addSome();
        }
        clear();
        both("write()", codec::write, model::write);
        int length = model.look(0);
        cut(0);
        if (length == 0) {
            return;
        }
        byte[] bytes = new byte[length];
        for (int k = 0; k < length; k++) {
            bytes[k] = (byte) model.output(k);
        }
        giveAll(broken(bytes));
        read();
        read();
    }

    private byte[] broken(byte[] bytes) {
        int from = (bytes[0] & 128) == 0 ? 1 : 2;
        int bodyLength = bytes.length - from - 4;
        StringBuilder body = new StringBuilder(Make.hex(bytes).substring(2 * from, 2 * (from + bodyLength)));
        for (int n = numbers.pick(0, 1, 1, 1, 2); n > 0; n--) {
            int k = 2 * numbers.below(body.length() / 2);
            String b = Show.hex(numbers.pick(numbers.below(256), numbers.below(64), 0, 127, 128, 255, 'a', 'z'));
            switch (numbers.below(6)) {
                case 0:
                    body.insert(k, b);
                    break;
                case 1:
                    if (body.length() > 2) {
                        body.delete(k, k + 2);
                    }
                    break;
                default:
                    body.replace(k, k + 2, b);
                    break;
            }
        }
        byte[] made = Make.bytes(Make.framed(body.toString()));
        if (numbers.once(8)) {
            made[numbers.below(made.length)] ^= 1 << numbers.below(8);
        }
        if (numbers.once(8)) {
            made = java.util.Arrays.copyOf(made, numbers.between(1, made.length));
        }
        return made;
    }

    private void giveAll(byte[] bytes) {
        for (int k = 0; k < bytes.length; k += 8) {
            int n = Math.min(8, bytes.length - k);
            long v = 0;
            for (int i = 0; i < n; i++) {
                v = v << 8 | bytes[k + i] & 255;
            }
            give(v, n);
        }
    }

    private static void mixed(int seed) {
        ModelTest test = new ModelTest("mixed", seed);
        while (test.has()) {
            test.step();
        }
        test.compareAll();
    }

    private static void broken(int seed) {
        ModelTest test = new ModelTest("broken", seed);
        while (test.calls < CALLS - 60) {
            test.brokenBytes();
        }
        test.compareAll();
    }

    public static void main(String[] args) {
        for (int seed = 1; seed <= 1500; seed++) {
            mixed(seed);
            broken(seed);
        }
        Expect.end();
    }
}
