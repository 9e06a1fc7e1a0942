/** Of each promise the wrong inputs, just outside and far outside, and which exception comes first. */
public final class WrongInputsTest {
    private static final int[] FAR = {-1, Integer.MIN_VALUE, Integer.MAX_VALUE};

    public static void main(String[] args) {
        StakeChain x = new StakeChain();
        x.fault(3);
        x.block(3, 0, -1, -1, 1);
        String before = picture(x);
        submit(x);
        nodes(x);
        spread(x);
        forge(x);
        block(x);
        questions(x);
        if (!before.equals(picture(x))) {
            Check.due("a call that throws changed something", 1, 0);
        }
        Check.end();
    }

    private static String picture(StakeChain x) {
        StringBuilder s = new StringBuilder();
        for (int what = 0; what < 9; what++) {
            s.append(x.count(what)).append(' ');
        }
        for (int n = 0; n < 16; n++) {
            for (int what = 0; what < 12; what++) {
                s.append(x.told(n, what)).append(' ');
            }
        }
        return s.toString();
    }

    private static void submit(StakeChain x) {
        int[][] bad = {{-1, 0, 0, 1}, {5, 0, 0, 1}, {0, -1, 0, 1}, {0, 200, 0, 1}, {0, 0, -1, 1}, {0, 0, 200, 1},
            {0, 0, 0, 0}, {0, 0, 0, 1000001}, {1, 0, -1, 1}, {1, 0, 16, 1}, {1, 0, 0, 0}, {1, 0, 0, 1000001},
            {2, 0, -1, 1}, {2, 0, 16, 1}, {2, 0, 0, 0}, {2, 0, 0, 1000001}, {3, 0, -1, 0}, {3, 0, 16, 0}, {3, 200, 0, 0},
            {4, 0, -1, 0}, {4, 0, 2, 0}, {4, 0, 0, -1}, {4, 0, 0, 2}, {4, 200, 0, 1},
            {Integer.MIN_VALUE, 0, 0, 1}, {0, Integer.MAX_VALUE, 0, 1}, {1, 0, 0, Integer.MIN_VALUE}};
        for (int[] b : bad) {
            Check.due("submit " + java.util.Arrays.toString(b), () -> x.submit(b[0], b[1], b[2], b[3]), Check.IAE);
        }
    }

    private static void nodes(StakeChain x) {
        for (int n : new int[] {-1, 16, Integer.MIN_VALUE, Integer.MAX_VALUE}) {
            Check.due("fault", () -> x.fault(n), Check.IOOBE);
            Check.due("deliver", () -> x.deliver(0, n), Check.IOOBE);
            Check.due("expire", () -> x.expire(n), Check.IOOBE);
            Check.due("sync", () -> x.sync(n, 0), Check.IOOBE);
            Check.due("power", () -> power(x, n, 0), Check.IOOBE);
            Check.due("power with two faults", () -> power(x, n, 14), Check.IOOBE);
            Check.due("start", () -> x.start(n), Check.IOOBE);
            Check.due("told", () -> x.told(n, 0), Check.IOOBE);
            Check.due("told with two faults", () -> x.told(n, 12), Check.IOOBE);
        }
        Check.due("power(0, -1)", () -> power(x, 0, -1), Check.IAE);
        Check.due("power(0, 14)", () -> power(x, 0, 14), Check.IAE);
        Check.due("start of one that is up", () -> x.start(0), Check.ISE);
        Check.due("start of one that is faulty", () -> x.start(3), Check.ISE);
        Check.due("deliver(2, 0)", () -> x.deliver(2, 0), Check.IOOBE);
        Check.due("sync(0, 3)", () -> x.sync(0, 3), Check.IOOBE);
        for (int far : FAR) {
            Check.due("deliver", () -> x.deliver(far, 0), Check.IOOBE);
            Check.due("sync", () -> x.sync(0, far), Check.IOOBE);
        }
    }

    private static int power(StakeChain x, int n, int b) {
        x.power(n, b);
        return 0;
    }

    private static void spread(StakeChain x) {
        Check.due("spread many 0", () -> x.spread(0, 0, 0), Check.IAE);
        Check.due("spread many 101", () -> x.spread(0, 101, 0), Check.IAE);
        Check.due("spread with two faults", () -> x.spread(-1, 0, 0), Check.IAE);
        Check.due("spread from -1", () -> x.spread(-1, 1, 0), Check.IOOBE);
        Check.due("spread from above the number", () -> x.spread(3, 1, 0), Check.IOOBE);
        Check.due("spread from the number", () -> x.spread(2, 1, 0), 0);
        Check.due("spread from far", () -> x.spread(Integer.MAX_VALUE, 100, -1), Check.IOOBE);
    }

    private static void forge(StakeChain x) {
        int[][] bad = {{3, -1, 1, 0, 0, -1}, {3, 3, 1, 0, 0, -1}, {3, 0, 0, 0, 0, -1}, {3, 0, 121, 0, 0, -1},
            {3, 0, 1, -1, 0, -1}, {3, 0, 1, 32, 0, -1}, {3, 0, 1, 0, -2, -1}, {3, 0, 1, 0, 3, -1}, {3, 0, 1, 0, 0, -2},
            {3, 0, 1, 0, 0, 32}, {3, 1, 1, 0, 0, 0}, {3, 2, 1, 0, 0, 31}, {0, 3, 1, 0, 0, -1}, {16, 0, 0, 0, 0, -1}};
        for (int[] b : bad) {
            Check.due("forge " + java.util.Arrays.toString(b), () -> x.forge(b[0], b[1], b[2], b[3], b[4], b[5]), Check.IAE);
        }
        for (int n : new int[] {0, -1, 16, Integer.MAX_VALUE}) {
            Check.due("forge of " + n, () -> x.forge(n, 0, 1, 0, 0, -1), Check.ISE);
        }
    }

    private static void block(StakeChain x) {
        int[][] bad = {{3, -1, -1, -1, -1}, {3, 3, -1, -1, -1}, {3, 0, -2, -1, -1}, {3, 0, 0, -1, -1}, {3, 0, -1, -2, -1},
            {3, 0, -1, 0, -1}, {3, 0, -1, -1, -2}, {3, 0, -1, -1, 65536}, {0, 3, -1, -1, -1}};
        for (int[] b : bad) {
            Check.due("block " + java.util.Arrays.toString(b), () -> x.block(b[0], b[1], b[2], b[3], b[4]), Check.IAE);
        }
        for (int n : new int[] {0, -1, 16, Integer.MIN_VALUE}) {
            Check.due("block of " + n, () -> x.block(n, 0, -1, -1, -1), Check.ISE);
        }
    }

    private static void questions(StakeChain x) {
        for (int far : FAR) {
            Check.due("told what", () -> x.told(0, far), Check.IAE);
            Check.due("message what", () -> x.message(0, far), Check.IAE);
            Check.due("message", () -> x.message(far, -1), Check.IOOBE);
            Check.due("of what", () -> x.of(0, far), Check.IAE);
            Check.due("of", () -> x.of(far, -1), Check.IOOBE);
            Check.due("account what", () -> x.account(0, 0, far), Check.IAE);
            Check.due("account", () -> x.account(far, 0, 0), Check.IOOBE);
            Check.due("account a", () -> x.account(0, far, 0), Check.IOOBE);
            Check.due("sum what", () -> x.sum(0, far), Check.IAE);
            Check.due("sum", () -> x.sum(far, 0), Check.IOOBE);
            Check.due("follow", () -> x.follow(far), Check.IOOBE);
            Check.due("count", () -> x.count(far), Check.IAE);
        }
        Check.due("told(0, 12)", () -> x.told(0, 12), Check.IAE);
        Check.due("message(0, 6)", () -> x.message(0, 6), Check.IAE);
        Check.due("message(2, 0)", () -> x.message(2, 0), Check.IOOBE);
        Check.due("of(0, 33)", () -> x.of(0, 33), Check.IAE);
        Check.due("of(3, 0)", () -> x.of(3, 0), Check.IOOBE);
        Check.due("account(0, 200, 0)", () -> x.account(0, 200, 0), Check.IOOBE);
        Check.due("account(0, 0, 18)", () -> x.account(0, 0, 18), Check.IAE);
        Check.due("account of no block that is not sound", () -> x.account(2, 200, 0), Check.IOOBE);
        Check.due("account not sound", () -> x.account(2, 0, 0), Check.ISE);
        Check.due("account not sound, no question", () -> x.account(2, 0, 18), Check.ISE);
        Check.due("sum(3, 0)", () -> x.sum(3, 0), Check.IOOBE);
        Check.due("sum(0, 21)", () -> x.sum(0, 21), Check.IAE);
        Check.due("sum not sound", () -> x.sum(2, 0), Check.ISE);
        Check.due("sum not sound, no question", () -> x.sum(2, 21), Check.ISE);
        Check.due("follow(3)", () -> x.follow(3), Check.IOOBE);
    }
}
