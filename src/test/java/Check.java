import java.util.function.LongSupplier;

/** What the tests share: answers held against those that are due, and short ways to feed an object. */
final class Check {
    private final String test;
    private int calls;
    private int wrong;

    Check(String test) {
        this.test = test;
    }

    void due(String call, long got, long want) {
        calls++;
        if (got != want) {
            tell(call, Long.toString(got), Long.toString(want));
        }
    }

    void due(String call, boolean got, boolean want) {
        calls++;
        if (got != want) {
            tell(call, Boolean.toString(got), Boolean.toString(want));
        }
    }

    void due(String call, String got, String want) {
        calls++;
        if (!got.equals(want)) {
            tell(call, got, want);
        }
    }

    /** Exactly this exception is due, and none that is derived from it. */
    void dueThrow(String call, Class<?> want, LongSupplier run) {
        due(call, outcome(run), want.getSimpleName());
    }

    static String outcome(LongSupplier run) {
        try {
            return Long.toString(run.getAsLong());
        } catch (RuntimeException e) {
            return e.getClass().getSimpleName();
        }
    }

    private void tell(String call, String got, String want) {
        wrong++;
        System.out.println(call + " answered " + got + ", due is " + want);
    }

    void end() {
        System.out.println(test + ": " + calls + " answers, " + wrong + " not as due");
        if (wrong != 0) {
            System.exit(1);
        }
    }

    static int read(RateShapes x, String text) {
        for (int i = 0; i < text.length(); i++) {
            if (!x.sign(text.charAt(i))) {
                throw new AssertionError("sign refused in " + text);
            }
        }
        return x.read();
    }

    static RateShapes withTree(String text) {
        RateShapes x = new RateShapes();
        if (read(x, text) < 1) {
            throw new AssertionError("no tree from " + text);
        }
        return x;
    }

    static String printed(RateShapes x) {
        StringBuilder text = new StringBuilder();
        int length = x.print();
        for (int i = 0; i < length; i++) {
            text.append((char) x.at(i));
        }
        return text.toString();
    }

    /** The six numbers of a node, in the order of what. */
    static String node(RateShapes x, int i) {
        StringBuilder text = new StringBuilder();
        for (int what = 0; what < 6; what++) {
            text.append(what == 0 ? "" : " ").append(x.node(i, what));
        }
        return text.toString();
    }

    /** All that can be seen of an object without changing it. */
    static String state(RateShapes x) {
        StringBuilder state = new StringBuilder();
        for (int what = 0; what < 4; what++) {
            state.append(x.count(what)).append(' ');
        }
        for (int i = 0; i < x.count(1); i++) {
            int index = i;
            state.append(node(x, i)).append(' ').append(outcome(() -> x.part(index)));
        }
        for (int i = 0; i < x.count(2); i++) {
            state.append((char) x.at(i));
        }
        for (int i = 0; i < 8; i++) {
            state.append(' ').append(x.missing(i));
        }
        return state.toString();
    }
}
