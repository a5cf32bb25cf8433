import java.util.function.LongSupplier;

/** What can be seen of a Codec, as a text. */
final class Show {
    private Show() {
    }

    static String thrownBy(Runnable made) {
        try {
            made.run();
            return "nothing";
        } catch (RuntimeException e) {
            return e.getClass().getSimpleName();
        }
    }

    /** The number that a call answers, or the name of the exception that it throws. */
    static String answerOf(LongSupplier call) {
        try {
            return String.valueOf(call.getAsLong());
        } catch (RuntimeException e) {
            return e.getClass().getSimpleName();
        }
    }

    static String all(Codec x) {
        return change(x) + " " + streams(x) + " out=" + output(x);
    }

    static String change(Codec x) {
        StringBuilder text = new StringBuilder();
        for (int w = -1; w <= 16; w++) {
            text.append(x.of(w)).append(',');
        }
        for (int i = 0; i < x.of(3); i++) {
            text.append('[');
            for (int w = 0; w < 5; w++) {
                text.append(x.operation(i, w)).append(',');
            }
            text.append(x.key(i)).append(']');
        }
        return text.toString();
    }

    static String streams(Codec x) {
        StringBuilder text = new StringBuilder();
        for (int which = -1; which <= 5; which++) {
            text.append(x.look(which)).append(',');
        }
        return text.toString();
    }

    /** The OUTPUT in hexadecimal digits. */
    static String output(Codec x) {
        StringBuilder text = new StringBuilder();
        for (int k = 0; k < x.look(0); k++) {
            text.append(hex(x.output(k)));
        }
        return text.toString();
    }

    static String hex(int b) {
        return String.format("%02x", b);
    }
}
