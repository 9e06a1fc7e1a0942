import java.lang.reflect.InvocationTargetException;
import java.lang.reflect.Method;
import java.util.ArrayList;
import java.util.Arrays;
import java.util.List;
import java.util.Random;

/** Random runs of calls, with seeds that are fixed: StakeChain and PlainChain must answer alike. */
public final class ModelTest {
    private static final String[] NAMES = {"submit", "fault", "deliver", "spread", "expire", "forge", "block", "sync",
        "power", "start", "told", "message", "of", "account", "sum", "follow", "count"};
    /** Of each kind of run how often each call comes. */
    private static final int[][] WEIGHTS = {
        {20, 0, 3, 12, 3, 0, 0, 1, 0, 0, 3, 1, 2, 3, 3, 3, 2},
        {10, 2, 10, 12, 6, 25, 8, 3, 0, 0, 5, 2, 2, 2, 2, 3, 2},
        {5, 0, 10, 12, 10, 0, 0, 3, 12, 12, 6, 2, 1, 1, 1, 2, 2},
        {10, 1, 8, 12, 14, 12, 4, 3, 6, 6, 6, 2, 1, 1, 1, 2, 2},
        {6, 6, 3, 8, 2, 40, 14, 6, 0, 0, 4, 1, 2, 1, 2, 12, 2},
        {6, 0, 4, 6, 6, 10, 30, 40, 3, 3, 8, 1, 2, 1, 2, 10, 12},
    };
    /** In this kind of run so many NODES are FAULTY from the first that they certify what they like, and NODES split. */
    private static final int SPLIT = 5;
    private static final int CERTIFIERS = 13;

    private static final int PROMISED = 512;
    /** Calls of all sorts; the last ones only ask. */
    private static final int DEEDS = 360;

    private final Random random;
    private final StakeChain real = new StakeChain();
    private final PlainChain plain = new PlainChain();
    private final List<String> run = new ArrayList<>();
    private final int[] weights;
    private boolean wrong;

    private ModelTest(long seed) {
        random = new Random(seed);
        weights = WEIGHTS[(int) (seed % WEIGHTS.length)];
    }

    private static Method method(Class<?> c, String name) {
        for (Method m : c.getMethods()) {
            if (m.getName().equals(name)) {
                return m;
            }
        }
        for (Method m : c.getDeclaredMethods()) {
            if (m.getName().equals(name)) {
                return m;
            }
        }
        throw new IllegalStateException(name);
    }

    private static String answer(Object x, String name, Object[] args) {
        try {
            return String.valueOf(method(x.getClass(), name).invoke(x, args));
        } catch (InvocationTargetException e) {
            return e.getCause().getClass().getSimpleName();
        } catch (IllegalAccessException e) {
            throw new IllegalStateException(e);
        }
    }

    private void both(String name, Integer... args) {
        String a = answer(real, name, args);
        String b = answer(plain, name, args);
        run.add(name + Arrays.toString(args) + " -> " + a);
        if (!a.equals(b) && !wrong) {
            wrong = true;
            run.forEach(System.out::println);
            System.out.println("the model answered " + b);
        }
    }

    /** Low to high, now and then just outside, and seldom anything. */
    private int pick(int low, int high) {
        int dice = random.nextInt(150);
        if (dice == 0) {
            return low - 1;
        }
        if (dice == 1) {
            return high + 1;
        }
        if (dice == 2) {
            return random.nextInt();
        }
        return high < low ? low : low + random.nextInt(high - low + 1);
    }

    private int late(int size) {
        return random.nextInt(3) == 0 ? pick(0, size - 1) : pick(Math.max(0, size - 40), size - 1);
    }

    private int nodeBits() {
        int dice = random.nextInt(4);
        return dice < 2 ? 65535 : dice == 2 ? random.nextInt() | random.nextInt() : random.nextInt();
    }

    private void submitSomething() {
        int kind = pick(0, 4);
        int a = random.nextInt(3) > 0 ? pick(0, 15) : pick(0, 199);
        if (kind == 4) {
            int m = late(plain.msgs.size());
            both("submit", kind, a, m, random.nextBoolean() ? m + 1 : late(plain.msgs.size()));
        } else {
            int v = random.nextInt(3) > 0 ? pick(1, 120) : pick(1, 1200);
            both("submit", kind, a, kind == 0 ? pick(0, 199) : random.nextBoolean() ? a : pick(0, 15), v);
        }
    }

    private void forgeSomething() {
        int n = pick(0, 15);
        PlainChain.Node like = plain.nodes[random.nextInt(16)];
        int height = random.nextInt(6) == 0 ? pick(1, 120) : plain.blocks.get(like.last).height() + 1;
        int round = random.nextInt(3) == 0 ? pick(0, 31) : Math.min(31, like.round + random.nextInt(2));
        int block = random.nextInt(4) == 0 ? -1 : late(plain.blocks.size());
        int kind = pick(0, 2);
        both("forge", n, kind, height, round, block, kind == 0 && random.nextBoolean() ? pick(-1, round) : -1);
    }

    /** Many FAULTY NODES vote for one BLOCK: that brings certificates and locks. */
    private void forgeMany() {
        int b = random.nextBoolean() ? late(plain.blocks.size()) : blockBehind(pick(0, 15));
        int height = b >= 0 && b < plain.blocks.size() ? plain.blocks.get(b).height() : 1;
        int round = random.nextInt(3);
        int kind = random.nextInt(3) == 0 ? 1 : 2;
        int others = weights == WEIGHTS[SPLIT] ? 40 : 10;
        for (int n = 0; n < 16; n++) {
            if (plain.nodes[n].faulty && random.nextInt(others) > 0) {
                both("forge", n, kind, height, round, random.nextInt(others) == 0 ? -1 : b, -1);
            }
        }
    }

    private void faultTheFirst(int many) {
        for (int n = 0; n < many; n++) {
            both("fault", n);
        }
    }

    private void oneCall() {
        int left = random.nextInt(Arrays.stream(weights).sum());
        int which = 0;
        while (left >= weights[which]) {
            left -= weights[which];
            which++;
        }
        int m = plain.msgs.size();
        int b = plain.blocks.size();
        switch (NAMES[which]) {
            case "submit": submitSomething(); break;
            case "fault": both("fault", pick(0, 15)); break;
            case "deliver": both("deliver", late(m), pick(0, 15)); break;
            case "spread": both("spread", random.nextInt(3) == 0 ? pick(0, m) : Math.max(0, m - 60), pick(1, 100), nodeBits()); break;
            case "expire": for (int i = random.nextInt(8); i >= 0; i--) both("expire", pick(0, 15)); break;
            case "forge": if (random.nextInt(weights == WEIGHTS[SPLIT] ? 2 : 4) == 0) forgeMany(); else forgeSomething(); break;
            case "block": both("block", pick(0, 15), late(b), pick(-1, plain.txs.size() - 1), pick(-1, plain.txs.size() - 1),
                random.nextInt(3) == 0 ? pick(-1, 65535) : -1); break;
            case "sync": syncSomething(); break;
            case "power": both("power", pick(0, 15), random.nextInt(3) == 0 ? 12 : pick(0, 13)); break;
            case "start": startSomething(); break;
            case "told": both("told", pick(0, 15), pick(0, 11)); break;
            case "message": both("message", late(m), pick(0, 5)); break;
            case "of": both("of", late(b), pick(0, 32)); break;
            case "account": both("account", late(b), pick(0, 199), pick(0, 17)); break;
            case "sum": both("sum", late(b), pick(0, 20)); break;
            case "follow": both("follow", late(b)); break;
            default: both("count", pick(0, 8)); break;
        }
    }

    /** A BLOCK that stands behind the LAST of a NODE, if there is one; else any. */
    private int blockBehind(int n) {
        int b = late(plain.blocks.size());
        for (int i = 0; i < plain.blocks.size() && n >= 0 && n < 16; i++) {
            if (plain.blocks.get(i).parent() == plain.nodes[n].last && random.nextBoolean()) {
                b = i;
            }
        }
        return b;
    }

    private void syncSomething() {
        int n = random.nextInt(3) > 0 ? CERTIFIERS + random.nextInt(16 - CERTIFIERS) : pick(0, 15);
        both("sync", n, random.nextInt(3) > 0 ? blockBehind(n) : late(plain.blocks.size()));
    }

    private void startSomething() {
        for (int n = 0; n < 16; n++) {
            if (plain.nodes[n].down && random.nextBoolean()) {
                both("start", n);
            }
        }
        if (random.nextInt(5) == 0) {
            both("start", pick(0, 15));
        }
    }

    /** Questions about all that there is, as many as are left of the calls that are promised. */
    private void askTheRest() {
        while (run.size() < PROMISED && !wrong) {
            int b = random.nextInt(plain.blocks.size());
            switch (random.nextInt(6)) {
                case 0: both("told", random.nextInt(16), random.nextInt(12)); break;
                case 1: both("of", b, random.nextInt(33)); break;
                case 2: both("sum", b, random.nextInt(21)); break;
                case 3: both("account", b, random.nextInt(20), random.nextInt(18)); break;
                case 4: both("message", random.nextInt(plain.msgs.size()), random.nextInt(6)); break;
                default: both("count", random.nextInt(9)); break;
            }
        }
    }

    public static void main(String[] args) {
        int runs = args.length > 0 ? Integer.parseInt(args[0]) : 60;
        int first = args.length > 1 ? Integer.parseInt(args[1]) : 1;
        int wrongRuns = 0;
        int[] sums = new int[9];
        for (int seed = first; seed < first + runs && wrongRuns == 0; seed++) {
            ModelTest t = new ModelTest(seed);
            t.faultTheFirst(seed % WEIGHTS.length == SPLIT ? CERTIFIERS : 0);
            while (t.run.size() < DEEDS && !t.wrong) {
                t.oneCall();
            }
            t.askTheRest();
            for (int what = 0; what <= 8; what++) {
                sums[what] += t.plain.count(what);
            }
            if (t.wrong) {
                System.out.println("seed " + seed);
                wrongRuns++;
            }
        }
        System.out.println(runs + " random runs, counts in all " + Arrays.toString(sums));
        if (wrongRuns != 0) {
            System.exit(1);
        }
    }
}
