import java.util.function.IntSupplier;

/** What the tests share: answers that are due, exceptions that are due, and runs of calls that come often. */
final class Check {
    static final int IOOBE = -1001;
    static final int IAE = -1002;
    static final int ISE = -1003;
    static final int ALL = 65535;

    private static int wrong = 0;
    private static int asked = 0;
    private static String sentence = "";

    private Check() { }

    /** The sentence of the document that the next answers are due by. */
    static void sentence(String words) {
        sentence = "\"" + words + "\": ";
    }

    static void due(String what, int got, int want) {
        asked++;
        if (got != want) {
            wrong++;
            System.out.println(sentence + what + " answered " + got + ", due is " + want);
        }
    }

    /** The answer of a call, or the number above for the exception that it threw: just that class, none below it. */
    static int answer(IntSupplier call) {
        try {
            return call.getAsInt();
        } catch (RuntimeException e) {
            if (e.getClass() == IndexOutOfBoundsException.class) {
                return IOOBE;
            }
            if (e.getClass() == IllegalArgumentException.class) {
                return IAE;
            }
            if (e.getClass() == IllegalStateException.class) {
                return ISE;
            }
            throw e;
        }
    }

    static void due(String what, IntSupplier call, int want) {
        due(what, answer(call), want);
    }

    static void end() {
        System.out.println(wrong == 0 ? asked + " answers are as due" : wrong + " answers are not as due");
        if (wrong != 0) {
            System.exit(1);
        }
    }

    /** Spreads all that there is and comes of it to the NODES, till the CHAIN of one of them has this HEIGHT or 60 calls are made. */
    static void runTo(Chain x, int height, int nodes) {
        int from = 0;
        for (int calls = 0; calls < 60 && x.count(7) < height; calls++) {
            from += x.spread(from, 30, nodes);
        }
    }

    static void faultAll(Chain x, int from, int to) {
        for (int n = from; n <= to; n++) {
            x.fault(n);
        }
    }

    /** FAULTY NODES from .. to send a vote each, which comes to one NODE: how many MESSAGES that NODE sent by that. */
    static int votes(Chain x, int[] what, int from, int to, int node) {
        int sent = 0;
        for (int n = from; n <= to; n++) {
            sent += x.deliver(x.forge(n, what[0], what[1], what[2], what[3], -1), node);
        }
        return sent;
    }

    /** KIND, HEIGHT, ROUND, BLOCK of a vote. */
    static int[] vote(int kind, int height, int round, int block) {
        return new int[] {kind, height, round, block};
    }

    /** ROUND, STEP, LOCK and CANDIDATE of a NODE. */
    static void stands(String what, Chain x, int n, int... want) {
        int[] questions = {1, 2, 4, 5, 6, 7};
        for (int i = 0; i < want.length; i++) {
            due(what + ": told(" + n + ", " + questions[i] + ")", x.told(n, questions[i]), want[i]);
        }
    }

    static void isMessage(String what, Chain x, int m, int... want) {
        for (int i = 0; i < want.length; i++) {
            due(what + ": message(" + m + ", " + i + ")", x.message(m, i), want[i]);
        }
    }
}
