import java.util.Arrays;
import java.util.function.ToIntFunction;

/**
 * Of each promise the inputs just inside, just outside and far outside of what is said, and which exception comes first;
 * and that a call that throws changes nothing.
 */
public final class WrongInputsTest {
    private static final int MIN = Integer.MIN_VALUE;
    private static final int MAX = Integer.MAX_VALUE;

    public static void main(String[] args) {
        submitInside();
        submitOutside();
        nodes();
        bytes();
        starts();
        messagesAndBlocks();
        spread();
        forgeInside();
        forgeOutside();
        blockInside();
        blockOutside();
        toldAndMessage();
        of();
        account();
        sum();
        followAndCount();
        nothingChanges();
        Check.end();
    }

    /** NODE 3 is FAULTY; BLOCK 2 is not SOUND; MESSAGES 0 and 1; no TRANSACTIONS. */
    private static Chain made() {
        Chain x = new Chain();
        x.fault(3);
        x.block(3, 0, -1, -1, 1);
        return x;
    }

    private static void submitInside() {
        Check.sentence("A new TRANSACTION of KIND kind: its number");
        int[][] good = {{0, 0, 0, 1}, {0, 199, 199, 1000000}, {1, 0, 0, 1}, {1, 199, 15, 1000000}, {2, 0, 0, 1},
            {2, 199, 15, 1000000}, {3, 0, 0, MIN}, {3, 199, 15, MAX}, {3, 0, 0, 0}, {4, 0, 0, 0}, {4, 199, 1, 1},
            {4, 0, 0, 1}, {4, 0, 1, 0}};
        Chain x = made();
        for (int i = 0; i < good.length; i++) {
            int[] t = good[i];
            Check.due("submit " + Arrays.toString(t), () -> x.submit(t[0], t[1], t[2], t[3]), i);
        }
        Check.due("count", x.count(0), good.length);
    }

    private static void submitOutside() {
        Check.sentence("IllegalArgumentException if kind is not 0 to 4, a not 0 to 199, of kind 0 b not 0 to 199 ..");
        int[][] bad = {{-1, 0, 0, 1}, {5, 0, 0, 1}, {MIN, 0, 0, 1}, {MAX, 0, 0, 1},
            {0, -1, 0, 1}, {0, 200, 0, 1}, {1, -1, 0, 1}, {1, 200, 0, 1}, {2, -1, 0, 1}, {2, 200, 0, 1}, {3, -1, 0, 1},
            {3, 200, 0, 1}, {4, -1, 0, 1}, {4, 200, 0, 1}, {0, MAX, 0, 1}, {0, MIN, 0, 1},
            {0, 0, -1, 1}, {0, 0, 200, 1}, {0, 0, MIN, 1}, {0, 0, MAX, 1},
            {1, 0, -1, 1}, {1, 0, 16, 1}, {2, 0, -1, 1}, {2, 0, 16, 1}, {3, 0, -1, 1}, {3, 0, 16, 1}, {3, 0, MAX, 1},
            {0, 0, 0, 0}, {0, 0, 0, -1}, {0, 0, 0, 1000001}, {0, 0, 0, MIN}, {0, 0, 0, MAX},
            {1, 0, 0, 0}, {1, 0, 0, -1}, {1, 0, 0, 1000001}, {1, 0, 0, MIN}, {1, 0, 0, MAX},
            {2, 0, 0, 0}, {2, 0, 0, -1}, {2, 0, 0, 1000001}, {2, 0, 0, MIN}, {2, 0, 0, MAX},
            {4, 0, -1, 0}, {4, 0, 2, 0}, {4, 0, 0, -1}, {4, 0, 0, 2}, {4, 0, MIN, MAX}, {4, 0, MAX, 0}};
        Chain x = made();
        for (int[] b : bad) {
            Check.due("submit " + Arrays.toString(b), () -> x.submit(b[0], b[1], b[2], b[3]), Check.IAE);
        }
        Check.due("count", x.count(0), 0);
    }

    private static void nodes() {
        Check.sentence("IndexOutOfBoundsException if there is no NODE n");
        Chain x = made();
        for (int n : new int[] {-1, 16, MIN, MAX}) {
            Check.due("fault", () -> x.fault(n), Check.IOOBE);
            Check.due("deliver", () -> x.deliver(0, n), Check.IOOBE);
            Check.due("expire", () -> x.expire(n), Check.IOOBE);
            Check.due("sync", () -> x.sync(n, 0), Check.IOOBE);
            Check.due("power", () -> power(x, n, 0), Check.IOOBE);
            Check.due("power with two faults", () -> power(x, n, 14), Check.IOOBE);
            Check.due("start", () -> x.start(n), Check.IOOBE);
            Check.due("told", () -> x.told(n, 0), Check.IOOBE);
            Check.due("told with two faults", () -> x.told(n, 12), Check.IOOBE);
        }
        for (int n = 0; n < 16; n += 15) {
            Check.due("told", x.told(n, 0), 1);
            Check.due("sync", x.sync(n, 0), 1);
            Check.due("deliver", x.deliver(1, n), 0);
            Check.due("expire", x.expire(n), 1);
            Check.due("power", power(x, n, 13), 0);
            Check.due("fault", x.fault(n), n == 0 ? 2 : 3);
        }
    }

    private static int power(Chain x, int n, int b) {
        x.power(n, b);
        return 0;
    }

    private static void bytes() {
        Check.sentence("IllegalArgumentException if b is not 0 to 13");
        Chain x = made();
        for (int b : new int[] {-1, 14, MIN, MAX}) {
            Check.due("power", () -> power(x, 0, b), Check.IAE);
            Check.due("power of one that is faulty", () -> power(x, 3, b), Check.IAE);
        }
        for (int b = 0; b <= 13; b++) {
            int bytes = b;
            Check.due("power", () -> power(x, 0, bytes), 0);
            Check.due("power of one that is faulty", () -> power(x, 3, bytes), 0);
        }
    }

    private static void starts() {
        Check.sentence("IllegalStateException if it is not DOWN");
        Chain x = made();
        for (int n = 0; n < 16; n++) {
            int node = n;
            Check.due("start", () -> x.start(node), Check.ISE);
        }
    }

    private static void messagesAndBlocks() {
        Check.sentence("IndexOutOfBoundsException if there is no MESSAGE m, no BLOCK b");
        Chain x = made();
        for (int m : new int[] {-1, 2, MIN, MAX}) {
            Check.due("deliver", () -> x.deliver(m, 0), Check.IOOBE);
            Check.due("deliver with two faults", () -> x.deliver(m, 16), Check.IOOBE);
            Check.due("message", () -> x.message(m, 0), Check.IOOBE);
            Check.due("message with two faults", () -> x.message(m, -1), Check.IOOBE);
        }
        for (int b : new int[] {-1, 3, MIN, MAX}) {
            Check.due("sync", () -> x.sync(0, b), Check.IOOBE);
            Check.due("sync of one that is faulty", () -> x.sync(3, b), Check.IOOBE);
            Check.due("of", () -> x.of(b, 0), Check.IOOBE);
            Check.due("of with two faults", () -> x.of(b, -1), Check.IOOBE);
            Check.due("account", () -> x.account(b, 0, 0), Check.IOOBE);
            Check.due("account with three faults", () -> x.account(b, 200, 18), Check.IOOBE);
            Check.due("sum", () -> x.sum(b, 0), Check.IOOBE);
            Check.due("sum with two faults", () -> x.sum(b, 21), Check.IOOBE);
            Check.due("follow", () -> x.follow(b), Check.IOOBE);
        }
        Check.due("deliver the last one", x.deliver(1, 0), 0);
        Check.due("the last message", x.message(1, 0), 1);
        Check.due("the last block", x.of(2, 0), 1);
        Check.due("sync to the last block", x.sync(0, 2), 1);
        Check.due("follow the last block", x.follow(2), -1);
    }

    private static void spread() {
        Check.sentence("IllegalArgumentException if many is not 1 to 100 (looked at first)");
        Chain x = made();
        for (int many : new int[] {0, 101, -1, MIN, MAX}) {
            Check.due("many " + many, () -> x.spread(0, many, 0), Check.IAE);
            Check.due("many " + many + " from -1", () -> x.spread(-1, many, 0), Check.IAE);
            Check.due("many " + many + " from 3", () -> x.spread(3, many, 0), Check.IAE);
        }
        for (int many : new int[] {1, 100}) {
            Check.due("from -1", () -> x.spread(-1, many, 0), Check.IOOBE);
            Check.due("from above the number", () -> x.spread(3, many, 0), Check.IOOBE);
            Check.due("from far", () -> x.spread(MAX, many, -1), Check.IOOBE);
            Check.due("from far", () -> x.spread(MIN, many, -1), Check.IOOBE);
            Check.due("from the number", () -> x.spread(2, many, -1), 0);
            Check.due("from the last one", () -> x.spread(1, many, 0), 1);
            Check.due("from 0", () -> x.spread(0, many, 0), Math.min(many, 2));
        }
    }

    private static void forgeInside() {
        Check.sentence("FAULTY NODE n sends a MESSAGE: its number");
        int[][] good = {{0, 1, 0, -1, -1}, {0, 120, 31, 2, 31}, {0, 1, 0, 0, 0}, {1, 1, 0, -1, -1}, {1, 120, 31, 2, -1},
            {2, 1, 0, 0, -1}, {2, 120, 31, -1, -1}};
        Chain x = made();
        for (int i = 0; i < good.length; i++) {
            int[] g = good[i];
            Check.due("forge " + Arrays.toString(g), () -> x.forge(3, g[0], g[1], g[2], g[3], g[4]), 2 + i);
            Check.isMessage("forged", x, 2 + i, g[0], 3, g[1], g[2], g[3], g[4]);
        }
    }

    private static void forgeOutside() {
        Check.sentence("IllegalArgumentException if kind is not 0 to 2, height not 1 to 120, round not 0 to 31 ..");
        int[][] bad = {{-1, 1, 0, 0, -1}, {3, 1, 0, 0, -1}, {0, 0, 0, 0, -1}, {0, 121, 0, 0, -1}, {1, 0, 0, 0, -1},
            {2, 121, 0, 0, -1}, {0, -1, 0, 0, -1}, {0, 1, -1, 0, -1}, {0, 1, 32, 0, -1}, {1, 1, -1, 0, -1}, {2, 1, 32, 0, -1},
            {0, 1, 0, -2, -1}, {0, 1, 0, 3, -1}, {1, 1, 0, -2, -1}, {2, 1, 0, 3, -1}, {0, 1, 0, 0, -2}, {0, 1, 0, 0, 32},
            {1, 1, 0, 0, 0}, {1, 1, 0, 0, -2}, {2, 1, 0, 0, 31}, {2, 1, 0, 0, 0}, {MAX, 1, 0, 0, -1}, {0, MIN, 0, 0, -1},
            {0, 1, MAX, 0, -1}, {0, 1, 0, MIN, -1}, {0, 1, 0, MAX, -1}, {0, 1, 0, 0, MAX}, {0, 1, 0, 0, MIN}};
        Chain x = made();
        for (int[] b : bad) {
            String what = "forge " + Arrays.toString(b);
            Check.due(what, () -> x.forge(3, b[0], b[1], b[2], b[3], b[4]), Check.IAE);
            Check.due(what + " of no faulty node", () -> x.forge(0, b[0], b[1], b[2], b[3], b[4]), Check.IAE);
        }
        for (int n : new int[] {0, 15, -1, 16, MIN, MAX}) {
            Check.due("forge of " + n, () -> x.forge(n, 0, 1, 0, 0, -1), Check.ISE);
        }
        Check.due("messages", x.count(1), 2);
    }

    private static void blockInside() {
        Check.sentence("FAULTY NODE n makes a BLOCK: its number");
        Chain x = made();
        x.submit(0, 0, 0, 1);
        x.submit(0, 0, 0, 1);
        int[][] good = {{0, -1, -1, -1}, {2, 0, 1, 0}, {1, 1, -1, 65535}, {0, -1, 0, 1}};
        for (int i = 0; i < good.length; i++) {
            int[] g = good[i];
            Check.due("block " + Arrays.toString(g), () -> x.block(3, g[0], g[1], g[2], g[3]), 3 + i);
            Check.due("parent", x.of(3 + i, 1), g[0]);
            Check.due("proposer", x.of(3 + i, 2), 3);
        }
    }

    private static void blockOutside() {
        Check.sentence("IllegalArgumentException if parent is no BLOCK, one or two not -1 or a TRANSACTION, claim not -1 to 65535");
        int[][] bad = {{-1, -1, -1, -1}, {3, -1, -1, -1}, {MIN, -1, -1, -1}, {MAX, -1, -1, -1}, {0, -2, -1, -1}, {0, 1, -1, -1},
            {0, -1, -2, -1}, {0, -1, 1, -1}, {0, MAX, -1, -1}, {0, -1, MIN, -1}, {0, -1, -1, -2}, {0, -1, -1, 65536},
            {0, -1, -1, MIN}, {0, -1, -1, MAX}};
        Chain x = made();
        x.submit(0, 0, 0, 1);
        for (int[] b : bad) {
            String what = "block " + Arrays.toString(b);
            Check.due(what, () -> x.block(3, b[0], b[1], b[2], b[3]), Check.IAE);
            Check.due(what + " of no faulty node", () -> x.block(0, b[0], b[1], b[2], b[3]), Check.IAE);
        }
        for (int n : new int[] {0, 15, -1, 16, MIN, MAX}) {
            Check.due("block of " + n, () -> x.block(n, 0, -1, -1, -1), Check.ISE);
        }
        Check.due("blocks", x.count(2), 3);
    }

    private static void toldAndMessage() {
        Check.sentence("IllegalArgumentException for others (told 0 to 11, message 0 to 5)");
        Chain x = made();
        x.power(5, 0);
        x.deliver(0, 5);
        for (int what : new int[] {-1, 12, MIN, MAX}) {
            Check.due("told", () -> x.told(0, what), Check.IAE);
            Check.due("told of one that is faulty", () -> x.told(3, what), Check.IAE);
            Check.due("told of one that is down", () -> x.told(5, what), Check.IAE);
        }
        Check.due("told(0, 0)", x.told(0, 0), 1);
        Check.due("told(0, 11)", x.told(0, 11), 0);
        for (int what : new int[] {-1, 6, MIN, MAX}) {
            Check.due("message", () -> x.message(0, what), Check.IAE);
        }
        Check.due("message(0, 0)", x.message(0, 0), 0);
        Check.due("message(0, 5)", x.message(0, 5), -1);
    }

    private static void of() {
        Check.sentence("IllegalArgumentException for others (of 0 to 32)");
        Chain x = made();
        for (int what : new int[] {-1, 33, MIN, MAX}) {
            Check.due("of", () -> x.of(0, what), Check.IAE);
            Check.due("of one that is not sound", () -> x.of(2, what), Check.IAE);
        }
        Check.due("of(2, 0)", x.of(2, 0), 1);
        Check.due("of(2, 4)", x.of(2, 4), 0);
        Check.due("of(2, 5)", x.of(2, 5), -1);
        Check.due("of(2, 16)", x.of(2, 16), -1);
        Check.due("of(2, 17)", x.of(2, 17), 100);
        Check.due("of(2, 32)", x.of(2, 32), 0);
    }

    private static void account() {
        Check.sentence("no BLOCK b, or ACCOUNT a; IllegalStateException if b is not SOUND; IllegalArgumentException for others");
        Chain x = made();
        for (int a : new int[] {-1, 200, MIN, MAX}) {
            Check.due("no account", () -> x.account(0, a, 0), Check.IOOBE);
            Check.due("no account, not sound", () -> x.account(2, a, 0), Check.IOOBE);
            Check.due("no account, no question", () -> x.account(0, a, 18), Check.IOOBE);
        }
        for (int what : new int[] {-1, 18, MIN, MAX}) {
            Check.due("no question", () -> x.account(0, 0, what), Check.IAE);
            Check.due("not sound, no question", () -> x.account(2, 0, what), Check.ISE);
        }
        Check.due("not sound", () -> x.account(2, 0, 0), Check.ISE);
        Check.due("account(0, 0, 0)", x.account(0, 0, 0), 1000);
        Check.due("account(0, 0, 1)", x.account(0, 0, 1), 100);
        Check.due("account(0, 15, 16)", x.account(0, 15, 16), 100);
        Check.due("account(0, 199, 17)", x.account(0, 199, 17), 0);
    }

    private static void sum() {
        Check.sentence("Thrown likewise (sum 0 to 20)");
        Chain x = made();
        for (int what : new int[] {-1, 21, MIN, MAX}) {
            Check.due("no question", () -> x.sum(0, what), Check.IAE);
            Check.due("not sound, no question", () -> x.sum(2, what), Check.ISE);
        }
        Check.due("not sound", () -> x.sum(2, 0), Check.ISE);
        Check.due("not sound", () -> x.sum(2, 20), Check.ISE);
        Check.due("sum(0, 0)", x.sum(0, 0), 100);
        Check.due("sum(0, 15)", x.sum(0, 15), 100);
        Check.due("sum(0, 16)", x.sum(0, 16), 0);
        Check.due("sum(0, 20)", x.sum(0, 20), 201600);
    }

    private static void followAndCount() {
        Check.sentence("IllegalArgumentException for others (count 0 to 8)");
        Chain x = made();
        for (int what : new int[] {-1, 9, MIN, MAX}) {
            Check.due("count", () -> x.count(what), Check.IAE);
        }
        Check.due("count(0)", x.count(0), 0);
        Check.due("count(8)", x.count(8), 0);
    }

    // ---- a call that throws changes nothing

    private static void nothingChanges() {
        Check.sentence("A call that throws changes nothing");
        String want = picture(run(null));
        for (int i = 0; i < BAD.length; i++) {
            Check.due("wrong call " + i + " changed something", want.equals(picture(run(BAD[i]))) ? 0 : 1, 0);
        }
    }

    /** Calls that throw at any time of the run below. */
    @SuppressWarnings({"unchecked", "rawtypes"})
    private static final ToIntFunction<Chain>[] BAD = new ToIntFunction[] {
        bad(x -> x.submit(5, 0, 0, 1)), bad(x -> x.submit(0, 0, 200, 1)), bad(x -> x.submit(1, 0, 0, 1000001)),
        bad(x -> x.submit(4, 0, 0, 5999)), bad(x -> x.fault(16)), bad(x -> x.fault(-1)), bad(x -> x.deliver(0, 16)),
        bad(x -> x.deliver(5999, 0)), bad(x -> x.spread(0, 101, -1)), bad(x -> x.spread(0, 0, -1)),
        bad(x -> x.spread(-1, 100, -1)), bad(x -> x.spread(5999, 100, -1)), bad(x -> x.expire(16)),
        bad(x -> x.forge(0, 1, 1, 0, 0, -1)), bad(x -> x.forge(3, 1, 121, 0, 0, -1)), bad(x -> x.forge(3, 1, 1, 0, 0, 5)),
        bad(x -> x.block(0, 0, -1, -1, -1)), bad(x -> x.block(3, 0, 9, -1, -1)), bad(x -> x.block(3, 299, -1, -1, -1)),
        bad(x -> x.block(3, 0, -1, -1, 65536)), bad(x -> x.sync(16, 0)), bad(x -> x.sync(0, 299)),
        bad(x -> power(x, 16, 0)), bad(x -> power(x, 0, 14)), bad(x -> power(x, 6, 14)), bad(x -> power(x, 6, -1)),
        bad(x -> x.start(16)), bad(x -> x.start(0)), bad(x -> x.start(3)), bad(x -> x.told(0, 12)), bad(x -> x.message(0, 6)),
        bad(x -> x.of(0, 33)), bad(x -> x.account(0, 0, 18)), bad(x -> x.account(0, 200, 0)), bad(x -> x.sum(0, 21)),
        bad(x -> x.follow(299)), bad(x -> x.follow(-1)), bad(x -> x.count(9))};

    private static ToIntFunction<Chain> bad(ToIntFunction<Chain> call) {
        return x -> {
            try {
                call.applyAsInt(x);
            } catch (IllegalArgumentException | IllegalStateException | IndexOutOfBoundsException e) {
                return 1;
            }
            throw new AssertionError("a call that should throw did not");
        };
    }

    /** A run with all that changes something, and behind each call of it the wrong one. */
    private static Chain run(ToIntFunction<Chain> wrong) {
        Chain x = new Chain();
        for (int step = 0; step < 60; step++) {
            deed(x, step);
            if (wrong != null) {
                wrong.applyAsInt(x);
            }
        }
        return x;
    }

    private static void deed(Chain x, int step) {
        switch (step) {
            case 0: x.submit(0, 4, 5, 10); break;
            case 1: x.submit(2, 7, 7, 10); break;
            case 2: x.power(6, 5); break;
            case 3: x.power(7, 12); break;
            case 4: x.fault(3); break;
            case 5: x.spread(0, 20, Check.ALL); break;
            case 6: x.forge(3, 1, 1, 0, 0, -1); break;
            case 7: x.forge(3, 1, 1, 0, 1, -1); break;
            case 8: x.submit(4, 9, x.count(1) - 1, x.count(1) - 2); break;
            case 9: x.block(3, 0, 0, 1, -1); break;
            case 10: x.spread(20, 20, Check.ALL); break;
            case 11: x.start(6); break;
            case 12: x.start(7); break;
            case 13: x.sync(6, 1); break;
            case 14: x.follow(1); break;
            case 15: x.power(8, 11); break;
            case 16: x.block(3, 0, -1, -1, 7); break;
            case 17: x.spread(40, 60, Check.ALL); break;
            case 18: x.follow(2); break;
            default: if (step < 35) x.expire(step - 19); else x.deliver(step, step % 16); break;
        }
    }

    private static String picture(Chain x) {
        StringBuilder s = new StringBuilder();
        for (int what = 0; what < 9; what++) {
            s.append(x.count(what)).append(' ');
        }
        for (int n = 0; n < 16; n++) {
            for (int what = 0; what < 12; what++) {
                s.append(x.told(n, what)).append(' ');
            }
        }
        int last = x.told(15, 3);
        for (int what = 0; what <= 20; what++) {
            s.append(x.sum(last, what)).append(' ');
        }
        for (int what = 0; what <= 17; what++) {
            s.append(x.account(last, 7, what)).append(' ');
        }
        for (int what = 0; what <= 32; what++) {
            s.append(x.of(last, what)).append(' ');
        }
        for (int m = x.count(1) - 15; m < x.count(1); m++) {
            s.append(x.message(m, 0)).append(x.message(m, 1)).append(x.message(m, 4)).append(' ');
        }
        return s.toString();
    }
}
