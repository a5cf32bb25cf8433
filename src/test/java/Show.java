/** What can be seen of an object of ChangeCodec, as a text. */
final class Show {
    private Show() {
    }

    static String thrownBy(Runnable made) {
        try {
            made.run();
            return "nothing";
        } catch (RuntimeException e) {
            return e.getClass().getSimpleName();
        }
    }

    static String all(ChangeCodec x) {
        return change(x) + " " + streams(x) + " out=" + output(x);
    }

    static String change(ChangeCodec x) {
        StringBuilder text = new StringBuilder();
        for (int w = -1; w <= 16; w++) {
            text.append(x.of(w)).append(',');
        }
        for (int i = 0; i < x.of(3); i++) {
            text.append('[');
            for (int w = 0; w < 5; w++) {
                text.append(x.operation(i, w)).append(',');
            }
            text.append(x.key(i)).append(']');
        }
        return text.toString();
    }

    static String streams(ChangeCodec x) {
        StringBuilder text = new StringBuilder();
        for (int which = -1; which <= 5; which++) {
            text.append(x.look(which)).append(',');
        }
        return text.toString();
    }

    /** The OUTPUT in hexadecimal digits. */
    static String output(ChangeCodec x) {
        StringBuilder text = new StringBuilder();
        for (int k = 0; k < x.look(0); k++) {
            text.append(hex(x.output(k)));
        }
        return text.toString();
    }

    static String hex(int b) {
        return String.format("%02x", b);
    }
}
