/** The first and the last number that is allowed, and those beside them, each with a test of its own. */
final class Edges {
    static final int[][] SIZES = {{2, 2}, {2, 3}, {3, 2}, {3, 3}};

    /** A call with a number that is allowed or not. */
    interface Ask {
        Object of(VowelTorus x, int number);
    }

    /** A call on a puzzle. */
    interface Call {
        Object on(VowelTorus x);
    }

    private final AllTests all;
    private final String promise;
    private final Class<? extends RuntimeException> due;

    /** Asks for this exception beyond the numbers that are allowed. */
    Edges(AllTests all, String promise, Class<? extends RuntimeException> due) {
        this.all = all;
        this.promise = promise;
        this.due = due;
    }

    /** A call that fails leaves all as without it, undo and the snapshot too; but a reason may be kept. */
    static void leavesAll(AllTests all, String name, Call call) {
        all.add(name, () -> {
            VowelTorus x = Make.rich();
            String got = Check.answer(() -> call.on(x));
            Check.isTrue(got + " is an exception; this", got.startsWith("throws java."));
            Check.is("all behind it", Look.toTheEnd(Make.rich()), Look.toTheEnd(x));
        });
    }

    void places(Ask ask) {
        for (int[] size : SIZES) {
            ofSize("place", size, 0, size[0] * size[1] - 1, ask);
        }
    }

    void lines(Ask ask) {
        for (int[] size : SIZES) {
            ofSize("line", size, 0, size[0] + size[1] - 1, ask);
        }
    }

    void turns(Ask ask) {
        for (int[] size : SIZES) {
            ofSize("turn", size, 0, 2 * (size[0] + size[1]) - 1, ask);
        }
    }

    /** Numbers that are the same for each board. */
    void numbers(String what, int first, int last, Ask ask) {
        ofSize(what, new int[] {3, 3}, first, last, ask);
    }

    private void ofSize(String what, int[] size, int first, int last, Ask ask) {
        String of = promise + ": " + what + " %d of " + size[0] + " by " + size[1] + ", ";
        isAllowed(of + "the first", size, first, ask);
        isAllowed(of + "the last", size, last, ask);
        isWrong(of + "below the first", size, first - 1, ask);
        isWrong(of + "above the last", size, last + 1, ask);
        all.add(promise + ": " + what + " far out, of " + size[0] + " by " + size[1], () -> {
            VowelTorus x = Make.used(size[0], size[1]);
            for (int far : new int[] {Integer.MIN_VALUE, Integer.MIN_VALUE + last, Integer.MAX_VALUE, first - 64,
                last + 64, last + 256, last + 65536}) {
                Check.failsAlone("the call with " + far, due, x, () -> ask.of(x, far));
            }
        });
    }

    private void isAllowed(String name, int[] size, int number, Ask ask) {
        all.add(String.format(name, number), () -> {
            String got = Check.answer(() -> ask.of(Make.used(size[0], size[1]), number));
            Check.isFalse("it answered " + got + "; this", got.startsWith("throws"));
        });
    }

    private void isWrong(String name, int[] size, int number, Ask ask) {
        all.add(String.format(name, number), () -> {
            VowelTorus x = Make.used(size[0], size[1]);
            Check.failsAlone("the call", due, x, () -> ask.of(x, number));
        });
    }
}
