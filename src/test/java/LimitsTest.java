/** The document's limits: HEIGHT 121, 300 BLOCKS, 6000 MESSAGES, 1500 TRANSACTIONS. */
public final class LimitsTest {
    private static final int NIL = -1;
    private static final int FAULTY = 5;

    public static void main(String[] args) {
        heights();
        alone();
        blocks();
        candidateWithAllBlocks();
        messages();
        transactions();
        Check.end();
    }

    private static void heights() {
        StakeChain x = new StakeChain();
        int from = 0;
        for (int calls = 0; calls < 60 && from < x.count(1); calls++) {
            from += x.spread(from, 100, Check.ALL);
        }
        Check.due("height of the last block", x.count(7), 120);
        Check.due("blocks", x.count(2), 121);
        Check.due("a proposal and two votes of each at each height", x.count(1), 120 * 33);
        for (int n = 0; n < 16; n++) {
            Check.due("height", x.told(n, 0), 121);
            Check.due("nothing in the log", x.told(n, 11), 0);
            Check.stands("nothing is done", x, n, 0, 0, -1, -1, -1, -1);
            Check.due("15851 mod 1600", x.told(n, 10), 14);
            Check.due("no time is over", x.expire(n), 0);
        }
        Check.due("all is known", x.told(3, 8), 120 * 33);
        x.fault(0);
        int next = x.block(0, x.told(1, 3), -1, -1, -1);
        Check.due("a block above", x.of(next, 0), 121);
        Check.due("is not synced", x.sync(1, next), 121);
        int m = x.forge(0, 1, 120, 31, next, -1);
        Check.due("it hears", x.deliver(m, 1), 0);
        Check.due("and knows", x.told(1, 8), 120 * 33 + 1);
        Check.due("looks at 120, 60, 30, 60, 120, 90, 120", x.follow(120), 7);
        Check.due("trusted", x.count(4), 120);
        Check.due("no certificate", x.follow(next), -1);
        Check.due("no split", x.count(5), 0);
        Check.due("always 0", x.count(8), 0);
        Check.due("sum", x.sum(120, 20), 201600);
    }

    /** One NODE has all the POWER, an amount of 1: it goes through all HEIGHTS in one call. */
    private static void alone() {
        StakeChain x = new StakeChain();
        for (int n = 0; n < 16; n++) {
            x.submit(2, n, n, n == 15 ? 99 : 100);
        }
        Check.runTo(x, 120, Check.ALL);
        Check.due("height", x.told(15, 0), 121);
        Check.due("power", x.sum(3, 15), 1);
        Check.due("blocks", x.count(2), 121);
        for (int b = 4; b <= 120; b++) {
            Check.due("proposer", x.of(b, 2), 15);
        }
        int first = 0;
        while (x.message(first, 2) < 4) {
            first++;
        }
        for (int i = 0; i < 117; i++) {
            Check.isMessage("proposal", x, first + 3 * i, 0, 15, 4 + i, 0, 4 + i, -1);
            Check.isMessage("prevote", x, first + 3 * i + 1, 1, 15, 4 + i, 0, 4 + i, -1);
            Check.isMessage("precommit", x, first + 3 * i + 2, 2, 15, 4 + i, 0, 4 + i, -1);
        }
        Check.due("the others have not heard of it", x.told(0, 0) < 5 ? 1 : 0, 1);
        Check.due("block 3", x.follow(3), 1);
        Check.due("the client follows by that NODE", x.follow(43), 1);
        Check.due("sum", x.sum(120, 20), 201600);
    }

    private static void blocks() {
        StakeChain x = new StakeChain();
        x.fault(0);
        for (int b = 2; b < 300; b++) {
            Check.due("block", x.block(0, b - 1, -1, -1, -1), b);
        }
        Check.due("300", () -> x.block(0, 0, -1, -1, -1), Check.ISE);
        Check.due("wrong inputs come first", () -> x.block(0, 300, -1, -1, -1), Check.IAE);
        Check.due("height", x.of(299, 0), 299);
        Check.due("no block 300", () -> x.of(300, 0), Check.IOOBE);
        Check.due("all is spread", x.spread(0, 100, Check.ALL), 31);
        Check.due("decided", x.told(2, 3), 1);
        Check.due("nothing is proposed", x.told(2, 11), 0);
        Check.due("blocks", x.count(2), 300);
        Check.due("it goes on without", x.expire(2), 1);
        Check.due("no certificate for it", x.follow(299), -1);
    }

    private static void candidateWithAllBlocks() {
        StakeChain x = new StakeChain();
        Check.faultAll(x, 0, 10);
        for (int b = 2; b < 300; b++) {
            x.block(0, 0, -1, -1, -1);
        }
        x.deliver(0, 13);
        Check.votes(x, Check.vote(1, 1, 0, 1), 0, 9, 13);
        Check.due("the candidate is proposed all the same", Check.votes(x, Check.vote(2, 1, 4, NIL), 0, 5, 13), 2);
        Check.isMessage("of the candidate", x, x.count(1) - 2, 0, 13, 1, 4, 1, 0);
    }

    /** A FAULTY NODE with more than a third leads the others from ROUND to ROUND, where they propose and prevote. */
    private static void messages() {
        StakeChain x = new StakeChain();
        x.submit(1, 20, FAULTY, 990);
        int from = 0;
        for (int calls = 0; calls < 60 && x.count(7) < 110; calls++) {
            from += x.spread(from, 100, Check.ALL);
        }
        x.spread(from, 100, Check.ALL);
        x.fault(FAULTY);
        fill(x, 5000, Check.ALL);
        downWithAWholeRecord(x, 14);
        int later = x.told(15, 1);
        fill(x, 6000, 0x3fff);
        Check.due("full", x.count(1), 6000);
        Check.due("NODE 15 has heard none of it", x.told(15, 1), later);
        stepsGoOn(x);
        Check.due("forge", () -> x.forge(FAULTY, 1, 1, 0, 0, -1), Check.ISE);
        Check.due("wrong inputs come first", () -> x.forge(FAULTY, 3, 1, 0, 0, -1), Check.IAE);
        Check.due("no message 6000", () -> x.message(6000, 0), Check.IOOBE);
        Check.due("no message 6000", () -> x.deliver(6000, 0), Check.IOOBE);
        Check.due("the last one", x.message(5999, 5) < 32 ? 1 : 0, 1);
        int whole = x.told(14, 11) / 12;
        Check.due("start", x.start(14), whole);
        Check.due("nothing is sent", x.count(1), 6000);
        Check.due("the last message is not there to be known", x.told(14, 8), whole - 1);
        Check.due("step 1 all the same", x.told(14, 2), 1);
        int blocks = x.count(2);
        Check.due("a last round of spreading", x.spread(5900, 100, Check.ALL), 100);
        Check.due("no block is made", x.count(2), blocks);
        Check.due("always 0", x.count(8), 0);
    }

    private static void fill(StakeChain x, int size, int nodes) {
        for (int calls = 0; calls < 200 && x.count(1) < size; calls++) {
            int height = x.told(0, 0);
            int round = x.told(0, 1) + 1;
            if (round > 31) {
                decide(x, height, nodes);
                continue;
            }
            int m = x.forge(FAULTY, 1, height, round, NIL, -1);
            x.spread(m, 40, nodes);
            if (x.told(0, 10) == FAULTY && x.count(1) < size) {
                x.spread(x.forge(FAULTY, 0, height, round, blockFor(x), -1), 40, nodes);
            }
        }
    }

    private static int blockFor(StakeChain x) {
        int last = x.told(0, 3);
        for (int b = x.count(2) - 1; b > last; b--) {
            if (x.of(b, 1) == last && x.of(b, 3) == 1) {
                return b;
            }
        }
        return x.block(FAULTY, last, -1, -1, -1);
    }

    /** The FAULTY NODE votes for the last proposal too: with it the others have MOST. */
    private static void decide(StakeChain x, int height, int nodes) {
        int m = x.count(1) - 1;
        while (x.message(m, 0) != 0) {
            m--;
        }
        int b = x.message(m, 4);
        int first = x.forge(FAULTY, 1, height, 31, b, -1);
        x.forge(FAULTY, 2, height, 31, b, -1);
        x.spread(first, 100, nodes);
        Check.due("decided", x.told(0, 0), height + 1);
    }

    private static void downWithAWholeRecord(StakeChain x, int n) {
        int height = x.told(0, 0);
        int round = x.told(0, 1) + 1;
        x.power(n, 12);
        x.deliver(x.forge(FAULTY, 1, height, round, NIL, -1), n);
        x.expire(n);
        Check.due("down", x.told(n, 9), 2);
    }

    private static void stepsGoOn(StakeChain x) {
        int known = x.told(15, 8);
        int log = x.told(15, 11);
        int step = x.told(15, 2);
        Check.due("NODE 15 has prevoted", step, 1);
        int height = x.told(15, 0);
        int round = x.told(15, 1) + 1;
        int proposals = 0;
        x.power(15, 0);
        for (int m = 5000; m < 6000; m++) {
            if (x.message(m, 2) == height && x.message(m, 3) == round && x.message(m, 1) == FAULTY && proposals == 0) {
                proposals++;
                Check.due("a later round, without a message", x.deliver(m, 15), 0);
            }
        }
        Check.stands("a later round", x, 15, round, 0);
        Check.due("time is over", x.expire(15), 0);
        Check.stands("step 1 all the same", x, 15, round, 1);
        Check.due("nothing was written, so power did not fail", x.told(15, 9), 0);
        Check.due("log", x.told(15, 11), log);
        Check.due("it knows one more, and no vote of its own", x.told(15, 8), known + 1);
        Check.due("no more", x.count(1), 6000);
    }

    private static void transactions() {
        StakeChain x = new StakeChain();
        for (int t = 0; t < 1500; t++) {
            x.submit(0, t % 200, 0, 1);
        }
        Check.due("1500", () -> x.submit(0, 0, 0, 1), Check.ISE);
        Check.due("wrong inputs come first", () -> x.submit(0, 0, 0, 0), Check.IAE);
        Check.due("count", x.count(0), 1500);
    }
}
