import java.util.ArrayList;
import java.util.List;
import java.util.function.ToLongFunction;

/**
 * A ChangeCodec that a test may look at as often as it likes, though an object is used for 512 calls alone: instead of
 * a 513th call a new object takes its place, on which all calls that can change something are made again.
 */
final class Codec {
    private static final int MOST_CALLS = 512;

    private final List<Made> history = new ArrayList<>();
    private ChangeCodec object = new ChangeCodec();
    private int calls = 0;

    private record Made(String name, ToLongFunction<ChangeCodec> call, String answer) {
    }

    void begin(int actor, int seq, int counter) {
        changing("begin", x -> {
            x.begin(actor, seq, counter);
            return 0;
        });
    }

    boolean hangs(int actor, int n) {
        return changing("hangs", x -> x.hangs(actor, n) ? 1 : 0) == 1;
    }

    int add(int type, int object, long key, int kind, int value) {
        return (int) changing("add", x -> x.add(type, object, key, kind, value));
    }

    boolean undo() {
        return changing("undo", x -> x.undo() ? 1 : 0) == 1;
    }

    int size() {
        return looked().size();
    }

    int write() {
        return (int) changing("write", ChangeCodec::write);
    }

    void clear() {
        changing("clear", x -> {
            x.clear();
            return 0;
        });
    }

    boolean give(long v, int n) {
        return changing("give", x -> x.give(v, n) ? 1 : 0) == 1;
    }

    boolean cut(int n) {
        return changing("cut", x -> x.cut(n) ? 1 : 0) == 1;
    }

    void turn() {
        changing("turn", x -> {
            x.turn();
            return 0;
        });
    }

    int read() {
        return (int) changing("read", ChangeCodec::read);
    }

    int of(int w) {
        return looked().of(w);
    }

    int operation(int i, int w) {
        return looked().operation(i, w);
    }

    long key(int i) {
        return looked().key(i);
    }

    int output(int k) {
        return looked().output(k);
    }

    int look(int which) {
        return looked().look(which);
    }

    private ChangeCodec looked() {
        if (calls >= MOST_CALLS) {
            renew();
        }
        calls++;
        return object;
    }

    private long changing(String name, ToLongFunction<ChangeCodec> call) {
        ChangeCodec x = looked();
        try {
            long answer = call.applyAsLong(x);
            history.add(new Made(name, call, String.valueOf(answer)));
            return answer;
        } catch (RuntimeException e) {
            history.add(new Made(name, call, e.getClass().getSimpleName()));
            throw e;
        }
    }

    /** An error, and no exception, where it can't be: no test may take it for an answer. */
    private void renew() {
        if (history.size() >= MOST_CALLS) {
            throw new AssertionError("a test makes more calls than an object is used for");
        }
        object = new ChangeCodec();
        calls = history.size();
        for (Made made : history) {
            Expect.due(made.name + " once more", Show.answerOf(() -> made.call.applyAsLong(object)), made.answer);
        }
    }
}
