/** Terms 3 and promises 3 to 9: each sentence that names an edge of what NODES do. */
public final class RulesEdgesTest {
    private static final int NIL = -1;
    private static final int PREVOTE = 1;
    private static final int PRECOMMIT = 2;

    public static void main(String[] args) {
        faultyNodes();
        whatIsKnown();
        manyOfSpread();
        endOfSpread();
        bitsOfSpread();
        mostInA();
        someInB();
        mostInD();
        mostInE();
        mostInF();
        mostWhenTimeIsOver();
        mostInSync();
        votesOfOneNode();
        votesForTheBlock();
        proposers();
        proposersAtTheEnds();
        noPowerNoProposer();
        goodBlocks();
        proposalsThatCount();
        aBeforeB();
        bBeforeC();
        eBeforeF();
        leastRoundOfA();
        greatestRoundOfB();
        notItsOwnRound();
        roundBefore();
        lockNotAboveRoundBefore();
        onceInARound();
        stepZeroDoesNotLock();
        round31();
        timeOver();
        syncedBlocks();
        newHeight();
        proposesTheCandidate();
        Check.end();
    }

    /** NODES 0 to 10 are FAULTY; BLOCK 1 by NODE 1 (MESSAGES 0, 1), BLOCK 2 like it, BLOCK 3 that is not SOUND. */
    private static Chain made() {
        Chain x = new Chain();
        Check.faultAll(x, 0, 10);
        x.block(0, 0, -1, -1, -1);
        x.block(0, 0, -1, -1, 1);
        return x;
    }

    /**
     * NODES 13 and 14 at HEIGHT 2, behind BLOCK 2, by which T is 1500: ten NODES have just 2 thirds, five just a third.
     * BLOCK 3 is its child. The PROPOSER of ROUND 0 is NODE 2 (262 of 1500).
     */
    private static Chain thirds() {
        Chain x = new Chain();
        Check.faultAll(x, 0, 10);
        x.block(0, 0, x.submit(2, 15, 15, 100), -1, -1);
        x.block(0, 2, -1, -1, -1);
        for (int n = 0; n <= 10; n++) {
            x.forge(n, PRECOMMIT, 1, 0, 2, -1);
        }
        x.sync(13, 2);
        x.sync(14, 2);
        Check.stands("led on", x, 14, 0, 0, -1, -1, -1, -1);
        Check.due("proposer", x.told(14, 10), 2);
        return x;
    }

    private static int propose(Chain x, int node, int height, int round, int block, int before, int to) {
        return x.deliver(x.forge(node, 0, height, round, block, before), to);
    }

    private static int vote(Chain x, int kind, int height, int round, int block, int from, int to) {
        return Check.votes(x, Check.vote(kind, height, round, block), from, to, height == 1 ? 15 : 14);
    }

    private static void lastIs(String what, Chain x, int kind, int node, int height, int round, int block) {
        Check.isMessage(what, x, x.count(1) - 1, kind, node, height, round, block, -1);
    }

    private static void faultyNodes() {
        Check.sentence("NODE n is FAULTY from now on (and not DOWN; it KNOWS what it did): how many are");
        Chain x = new Chain();
        x.power(15, 5);
        x.deliver(0, 15);
        Check.due("the first", x.fault(0), 1);
        Check.due("again", x.fault(0), 1);
        Check.due("one that is down", x.fault(15), 2);
        Check.due("is not down any more", x.told(15, 9), 1);
        Check.due("cannot start", () -> x.start(15), Check.ISE);
        x.deliver(1, 14);
        Check.due("one that knows a message", x.fault(14), 3);
        Check.due("it knows it", x.told(14, 8), 1);
        for (int n = 0; n < 16; n++) {
            x.fault(n);
        }
        Check.due("all", x.count(3), 16);
        Check.due("none does anything", x.spread(0, 100, Check.ALL), 2);
        Check.due("no message", x.count(1), 2);
        Check.due("all hear", x.told(0, 8), 2);
    }

    private static void whatIsKnown() {
        Check.sentence("MESSAGE m comes to NODE n (nothing, if it KNOWS it, or is DOWN)");
        Chain x = new Chain();
        Check.due("nothing is known", x.told(0, 8), 0);
        Check.due("its own", x.deliver(1, 1), 0);
        Check.due("known before", x.told(1, 8), 2);
        Check.due("the first message to the first node", x.deliver(0, 0), 1);
        Check.due("and again", x.deliver(0, 0), 0);
        Check.due("it knows it and its own vote", x.told(0, 8), 2);
        Check.due("the last message to the last node", x.deliver(2, 15), 0);
        Check.due("known", x.told(15, 8), 1);
        x.power(15, 0);
        x.deliver(0, 15);
        Check.due("one that is down", x.deliver(1, 15), 0);
        Check.due("knows nothing", x.told(15, 8), 0);
    }

    private static void manyOfSpread() {
        Check.sentence("MESSAGES from m on, at most many, also those that are sent meanwhile");
        Chain x = new Chain();
        Check.due("many 1", x.spread(0, 1, 1), 1);
        Check.due("one has come", x.told(0, 8), 2);
        Check.due("from the last one on", x.spread(2, 100, 2), 1);
        Chain y = new Chain();
        Check.due("many 100", y.spread(0, 100, Check.ALL), 100);
        Check.due("a hundredth", y.deliver(99, 1), 0);
        int known = y.told(1, 8);
        y.deliver(100, 1);
        Check.due("but not the next one", y.told(1, 8), known + (y.message(100, 1) == 1 ? 0 : 1));
        Chain z = new Chain();
        Check.due("two, and the vote that is sent meanwhile", z.spread(0, 100, 1), 3);
    }

    private static void endOfSpread() {
        Check.sentence("IndexOutOfBoundsException if m is below 0, or above the number of MESSAGES");
        Chain x = new Chain();
        Check.due("the number", x.spread(2, 100, Check.ALL), 0);
        Check.due("above", () -> x.spread(3, 100, Check.ALL), Check.IOOBE);
        Check.due("below 0", () -> x.spread(-1, 100, Check.ALL), Check.IOOBE);
        Check.due("nothing came", x.told(0, 8), 0);
    }

    private static void bitsOfSpread() {
        Check.sentence("come to NODES 0 to 15, whose bits are 1 in nodes");
        Chain x = new Chain();
        Check.due("no bit: two all the same", x.spread(0, 5, 0), 2);
        Check.due("bits above 15", x.spread(0, 5, 0xffff0000), 2);
        Check.due("nobody", x.count(1), 2);
        Check.due("bit 15", x.spread(0, 1, Integer.MIN_VALUE | 32768), 1);
        Check.isMessage("by 15", x, 2, PREVOTE, 15, 1, 0, 1, -1);
        Check.due("bit 0", x.spread(0, 1, 1), 1);
        Check.isMessage("by 0", x, 3, PREVOTE, 0, 1, 0, 1, -1);
        Check.due("no more", x.count(1), 4);
    }

    private static void mostInA() {
        Check.sentence("NODES have MOST if three times their POWERS is above 2 T: (a)");
        Chain x = thirds();
        propose(x, 2, 2, 0, 3, -1, 14);
        vote(x, PRECOMMIT, 2, 0, 3, 1, 10);
        Check.due("just 2 thirds", x.told(14, 3), 2);
        vote(x, PRECOMMIT, 2, 0, 3, 0, 0);
        Check.due("above", x.told(14, 3), 3);
        Chain y = made();
        y.deliver(0, 15);
        vote(y, PRECOMMIT, 1, 0, 1, 0, 9);
        Check.due("ten of sixteen", y.told(15, 3), 0);
        vote(y, PRECOMMIT, 1, 0, 1, 10, 10);
        Check.due("eleven of sixteen", y.told(15, 3), 1);
    }

    private static void someInB() {
        Check.sentence("SOME if it is above T: (b)");
        Chain x = thirds();
        vote(x, PRECOMMIT, 2, 7, NIL, 1, 5);
        Check.stands("just a third", x, 14, 0, 0);
        vote(x, PRECOMMIT, 2, 7, NIL, 5, 5);
        Check.stands("one of them again", x, 14, 0, 0);
        vote(x, PREVOTE, 2, 7, 3, 6, 6);
        Check.stands("above", x, 14, 7, 0);
        Chain y = made();
        vote(y, PREVOTE, 1, 1, NIL, 0, 4);
        Check.stands("five of sixteen", y, 15, 0, 0);
        vote(y, PREVOTE, 1, 1, NIL, 5, 5);
        Check.stands("six of sixteen", y, 15, 1, 0);
    }

    private static void mostInD() {
        Check.sentence("whose BLOCK has prevotes of MOST in w: (d)");
        Chain x = thirds();
        vote(x, PRECOMMIT, 2, 1, NIL, 0, 5);
        Check.stands("round 1: 569 of 1500", x, 14, 1, 0);
        Check.due("proposer", x.told(14, 10), 5);
        Check.due("no prevotes", propose(x, 5, 2, 1, 3, 0, 14), 0);
        Check.due("just 2 thirds", vote(x, PREVOTE, 2, 0, 3, 1, 10), 0);
        Check.due("above", vote(x, PREVOTE, 2, 0, 3, 0, 0), 1);
        lastIs("for it", x, PREVOTE, 14, 2, 1, 3);
    }

    private static void mostInE() {
        Check.sentence("whose BLOCK has prevotes of MOST in it: (e)");
        Chain x = thirds();
        Check.due("its own prevote", propose(x, 2, 2, 0, 3, -1, 14), 1);
        Check.due("ten with it", vote(x, PREVOTE, 2, 0, 3, 1, 9), 0);
        Check.stands("not locked", x, 14, 0, 1, -1, -1, -1, -1);
        Check.due("eleven", vote(x, PREVOTE, 2, 0, 3, 0, 0), 1);
        Check.stands("locked", x, 14, 0, 2, 3, 0, 3, 0);
    }

    private static void mostInF() {
        Check.sentence("(f) In STEP 1, prevotes for none of MOST in ROUND");
        Chain x = thirds();
        Check.due("its own prevote for none", x.expire(14), 1);
        Check.due("ten with it", vote(x, PREVOTE, 2, 0, NIL, 1, 9), 0);
        Check.stands("step 1", x, 14, 0, 1);
        Check.due("for a block does not count", vote(x, PREVOTE, 2, 0, 3, 10, 10), 0);
        Check.due("in another round does not count", vote(x, PREVOTE, 2, 1, NIL, 10, 10), 0);
        Check.due("a precommit does not count", vote(x, PRECOMMIT, 2, 0, NIL, 10, 10), 0);
        Check.due("eleven", vote(x, PREVOTE, 2, 0, NIL, 0, 0), 1);
        lastIs("for none", x, PRECOMMIT, 14, 2, 0, NIL);
        Check.stands("step 2, not locked", x, 14, 0, 2, -1, -1, -1, -1);
    }

    private static void mostWhenTimeIsOver() {
        Check.sentence("in STEP 1, if NODES of which it KNOWS prevotes in ROUND have MOST; in STEP 2, precommits");
        Chain x = thirds();
        x.expire(14);
        vote(x, PREVOTE, 2, 0, 3, 1, 4);
        vote(x, PREVOTE, 2, 0, 2, 5, 9);
        Check.due("ten with its own", x.expire(14), 0);
        vote(x, PRECOMMIT, 2, 0, 3, 10, 10);
        vote(x, PREVOTE, 2, 1, 3, 10, 10);
        vote(x, PREVOTE, 1, 0, 3, 10, 10);
        Check.due("no other kind, round or height", x.expire(14), 0);
        vote(x, PREVOTE, 2, 0, 0, 10, 10);
        Check.due("eleven, for whatever", x.expire(14), 1);
        lastIs("for none", x, PRECOMMIT, 14, 2, 0, NIL);
        vote(x, PRECOMMIT, 2, 0, 2, 2, 9);
        Check.due("ten with its own and 10", x.expire(14), 0);
        Check.stands("round 0", x, 14, 0, 2);
        vote(x, PRECOMMIT, 2, 0, NIL, 0, 0);
        Check.due("eleven", x.expire(14), 0);
        Check.stands("round 1", x, 14, 1, 0);
    }

    private static void mostInSync() {
        Check.sentence("there is a ROUND in which these have MOST");
        Chain x = thirds();
        for (int n = 1; n <= 10; n++) {
            x.forge(n, PRECOMMIT, 2, 31, 3, -1);
        }
        Check.due("just 2 thirds", x.sync(14, 3), 2);
        x.forge(0, PRECOMMIT, 2, 30, 3, -1);
        Check.due("not in one round", x.sync(14, 3), 2);
        x.forge(0, PRECOMMIT, 2, 31, 3, -1);
        Check.due("above, in round 31", x.sync(14, 3), 3);
        Check.due("it was not sent to it", x.told(14, 8), 0);
    }

    private static void votesOfOneNode() {
        Check.sentence("VOTES for a BLOCK (or none) in a ROUND are NODES");
        Chain x = made();
        x.deliver(0, 15);
        vote(x, PREVOTE, 1, 0, 1, 0, 8);
        Check.due("one of them again", vote(x, PREVOTE, 1, 0, 1, 8, 8), 0);
        Check.due("one of them for another", vote(x, PREVOTE, 1, 0, 2, 8, 8), 0);
        Check.stands("ten with its own", x, 15, 0, 1);
        vote(x, PRECOMMIT, 1, 0, 1, 0, 9);
        vote(x, PRECOMMIT, 1, 0, 1, 9, 9);
        Check.due("ten precommits, one twice", x.told(15, 3), 0);
        vote(x, PREVOTE, 1, 0, 2, 9, 9);
        Check.due("one may vote for two", vote(x, PREVOTE, 1, 0, 1, 9, 9), 1);
        Check.due("with its own there are eleven", x.told(15, 3), 1);
    }

    private static void votesForTheBlock() {
        Check.sentence("precommits of MOST in q");
        Chain x = made();
        x.deliver(0, 15);
        vote(x, PRECOMMIT, 1, 0, 1, 0, 9);
        vote(x, PRECOMMIT, 1, 0, NIL, 10, 10);
        vote(x, PRECOMMIT, 1, 0, 2, 10, 10);
        vote(x, PRECOMMIT, 1, 1, 1, 10, 10);
        vote(x, PREVOTE, 1, 0, 1, 10, 10);
        Check.votes(x, Check.vote(PRECOMMIT, 2, 0, 1), 10, 10, 15);
        Check.due("none of these counts", x.told(15, 3), 0);
        vote(x, PRECOMMIT, 1, 0, 1, 10, 10);
        Check.due("this does", x.told(15, 3), 1);
    }

    private static void proposers() {
        Check.sentence("the first NODE at which the sum of POWERS from NODE 0 on is above (131 h + 307 r) mod T");
        int[] rounds = {1, 4, 5, 9, 10, 15, 24, 31};
        int[] proposers = {4, 13, 0, 12, 0, 15, 10, 0};
        Chain x = made();
        Check.due("131", x.told(15, 10), 1);
        for (int i = 0; i < rounds.length; i++) {
            vote(x, PRECOMMIT, 1, rounds[i], NIL, 0, 5);
            Check.due("round " + rounds[i], x.told(15, 10), proposers[i]);
        }
    }

    /** HEIGHTS and ROUNDS where 131 h + 307 r mod 1600 is 1599, 100, 1500, 0, 99 and 1499, and the PROPOSER. */
    private static void proposersAtTheEnds() {
        Check.sentence("is above (131 h + 307 r) mod T");
        int[][] edges = {{10, 27, 15}, {21, 7, 1}, {27, 9, 15}, {48, 16, 0}, {68, 13, 0}, {74, 15, 14}};
        for (int[] edge : edges) {
            Chain x = new Chain();
            // A HEIGHT takes 33 MESSAGES.
            for (int height = 1; height < edge[0]; height++) {
                x.spread(33 * (height - 1), 33, Check.ALL);
            }
            Check.due("height", x.told(13, 0), edge[0]);
            Check.faultAll(x, 0, 5);
            Check.votes(x, Check.vote(PRECOMMIT, edge[0], edge[1], NIL), 0, 5, 13);
            Check.due("round", x.told(13, 1), edge[1]);
            Check.due((131 * edge[0] + 307 * edge[1]) % 1600 + " of 1600", x.told(13, 10), edge[2]);
        }
    }

    private static void noPowerNoProposer() {
        Check.sentence("(none if T is 0)");
        Chain x = new Chain();
        Check.faultAll(x, 0, 15);
        int[] jail = new int[16];
        for (int n = 0; n < 16; n++) {
            jail[n] = x.submit(4, 20, x.forge(n, 1, 1, 0, 0, -1), x.forge(n, 1, 1, 0, 1, -1));
        }
        int b = 0;
        for (int n = 0; n < 16; n += 2) {
            b = x.block(0, b, jail[n], jail[n + 1], -1);
        }
        Check.due("all are jailed", x.sum(b, 16), 65535);
        Check.due("bonds are there", x.sum(b, 19), 16);
        int next = x.block(0, b, -1, -1, -1);
        Check.due("a claim of nothing is right", x.of(next, 3), 1);
        Check.due("claim", x.of(next, 17), 0);
        Check.due("by bits too", x.of(x.block(0, b, -1, -1, 0), 3), 1);
        Chain y = new Chain();
        for (int n = 0; n < 16; n++) {
            y.submit(2, n, n, 100);
        }
        for (int calls = 0, from = 0; calls < 5; calls++) {
            from += y.spread(from, 60, Check.ALL);
        }
        Check.due("no bond is left", y.sum(3, 19), 0);
        Check.due("no proposer", y.told(0, 10), -1);
        Check.due("nobody proposes", y.count(2), 4);
        Check.due("time is over", y.expire(0), 1);
        Check.due("nobody has MOST", y.expire(0), 0);
        Check.stands("step 1", y, 0, 0, 1);
    }

    private static void goodBlocks() {
        Check.sentence("A BLOCK is GOOD for it if it is SOUND and LAST is its PARENT");
        int[] votes = {NIL, 1, 2, NIL, NIL};
        for (int b = 0; b <= 4; b++) {
            Chain x = made();
            Check.due("a child of block 1", x.block(0, 1, -1, -1, -1), 4);
            Check.due("a proposal of block " + b, propose(x, 1, 1, 0, b, -1, 15), 1);
            lastIs("its prevote", x, PREVOTE, 15, 1, 0, votes[b]);
            vote(x, PRECOMMIT, 1, 0, b, 0, 10);
            Check.due("decided", x.told(15, 3), votes[b] == NIL ? 0 : b);
        }
    }

    private static void proposalsThatCount() {
        Check.sentence("of the proposals of its HEIGHT, of this ROUND, with a BLOCK, by its PROPOSER, the one that it KNEW first");
        Chain x = made();
        Check.due("of another height", propose(x, 1, 2, 0, 2, -1, 15), 0);
        Check.due("of another round", propose(x, 1, 1, 1, 2, -1, 15), 0);
        Check.due("without a block", propose(x, 1, 1, 0, NIL, -1, 15), 0);
        Check.due("by another node", propose(x, 2, 1, 0, 2, -1, 15), 0);
        Check.stands("none of these", x, 15, 0, 0);
        int later = x.forge(1, 0, 1, 0, 2, -1);
        Check.due("the first that it knows", x.deliver(later, 15), 1);
        lastIs("for it", x, PREVOTE, 15, 1, 0, 2);
        Check.due("one that was sent before", x.deliver(0, 15), 0);
        Check.due("prevotes for that do nothing", vote(x, PREVOTE, 1, 0, 1, 0, 10), 0);
        Check.due("prevotes for the first", vote(x, PREVOTE, 1, 0, 2, 0, 9), 1);
        Check.stands("locked", x, 15, 0, 2, 2, 0, 2, 0);
    }

    /** NODE 15 KNOWS MESSAGES of HEIGHT 2, where it is the PROPOSER of ROUND 25, and is then led on to it. */
    private static void aBeforeB() {
        Check.sentence("does the first of them: (a), then (b)");
        Chain x = made();
        int child = x.block(0, 2, -1, -1, -1);
        propose(x, 2, 2, 0, child, -1, 15);
        Check.votes(x, Check.vote(PRECOMMIT, 2, 0, child), 0, 10, 15);
        Check.votes(x, Check.vote(PREVOTE, 2, 25, NIL), 0, 5, 15);
        for (int n = 0; n <= 10; n++) {
            x.forge(n, PRECOMMIT, 1, 0, 2, -1);
        }
        int before = x.count(1);
        Check.due("it decides at once", x.sync(15, 2), 3);
        Check.due("it did not begin round 25, where it would propose", x.count(1), before);
        Check.stands("round 0", x, 15, 0, 0);
    }

    private static void bBeforeC() {
        Check.sentence("does the first of them: (b), then (c)");
        Chain x = made();
        int child = x.block(0, 2, -1, -1, -1);
        propose(x, 2, 2, 0, child, -1, 15);
        Check.votes(x, Check.vote(PREVOTE, 2, 7, NIL), 0, 5, 15);
        for (int n = 0; n <= 10; n++) {
            x.forge(n, PRECOMMIT, 1, 0, 2, -1);
        }
        int before = x.count(1);
        Check.due("height 2", x.sync(15, 2), 2);
        Check.stands("round 7", x, 15, 7, 0);
        Check.due("no prevote in round 0", x.count(1), before);
    }

    private static void eBeforeF() {
        Check.sentence("does the first of them: (e), then (f)");
        Chain x = made();
        vote(x, PREVOTE, 1, 0, 1, 0, 10);
        vote(x, PREVOTE, 1, 0, NIL, 0, 10);
        Check.due("both have MOST", x.deliver(0, 15), 2);
        lastIs("for the block", x, PRECOMMIT, 15, 1, 0, 1);
        Check.stands("locked", x, 15, 0, 2, 1, 0, 1, 0);
    }

    private static void leastRoundOfA() {
        Check.sentence("(a) for the least ROUND q with a GOOD PROPOSAL whose BLOCK has precommits of MOST in q");
        Chain x = made();
        int one = x.block(0, 2, -1, -1, -1);
        int two = x.block(0, 2, -1, -1, -1);
        int three = x.block(0, 1, -1, -1, -1);
        int[] blocks = {three, one, two};
        int[] proposers = {2, 5, 8};
        for (int round = 0; round < 3; round++) {
            propose(x, proposers[round], 2, round, blocks[round], -1, 15);
            Check.votes(x, Check.vote(PRECOMMIT, 2, round, blocks[round]), 0, 10, 15);
        }
        for (int n = 0; n <= 10; n++) {
            x.forge(n, PRECOMMIT, 1, 0, 2, -1);
        }
        Check.due("height 3", x.sync(15, 2), 3);
        Check.due("that of round 0 is not good, that of round 1 is", x.told(15, 3), one);
    }

    private static void greatestRoundOfB() {
        Check.sentence("(b) For the greatest q above ROUND");
        Chain x = made();
        Check.votes(x, Check.vote(PREVOTE, 2, 25, NIL), 0, 5, 15);
        Check.votes(x, Check.vote(PREVOTE, 2, 26, NIL), 0, 5, 15);
        Check.votes(x, Check.vote(PREVOTE, 2, 27, NIL), 0, 4, 15);
        for (int n = 0; n <= 10; n++) {
            x.forge(n, PRECOMMIT, 1, 0, 2, -1);
        }
        int before = x.count(1);
        x.sync(15, 2);
        Check.stands("round 26", x, 15, 26, 0);
        Check.due("it did not begin round 25, where it would propose", x.count(1), before);
    }

    private static void notItsOwnRound() {
        Check.sentence("(b) above ROUND");
        Chain x = made();
        vote(x, PREVOTE, 1, 3, NIL, 0, 5);
        Check.stands("round 3", x, 15, 3, 0);
        x.expire(15);
        Check.stands("step 1", x, 15, 3, 1);
        vote(x, PRECOMMIT, 1, 3, NIL, 0, 5);
        Check.stands("its own round does not begin again", x, 15, 3, 1);
        vote(x, PRECOMMIT, 1, 2, NIL, 0, 10);
        Check.stands("nor one below", x, 15, 3, 1);
        vote(x, PRECOMMIT, 1, 4, NIL, 0, 5);
        Check.stands("the next one does", x, 15, 4, 0);
    }

    private static void roundBefore() {
        Check.sentence("with a ROUND w from 0 to below ROUND");
        for (int w = 0; w <= 2; w++) {
            Chain x = made();
            vote(x, PREVOTE, 1, w, 2, 0, 10);
            vote(x, PRECOMMIT, 1, 2, NIL, 0, 5);
            Check.due("proposer of round 2", x.told(15, 10), 7);
            Check.due("round before " + w, propose(x, 7, 1, 2, 2, w, 15), w < 2 ? 1 : 0);
            Check.stands("step", x, 15, 2, w < 2 ? 1 : 0);
        }
        Chain x = made();
        Check.due("31 in round 0", propose(x, 1, 1, 0, 2, 31, 15), 0);
        vote(x, PREVOTE, 1, 0, 2, 0, 10);
        Check.stands("nothing can be done", x, 15, 0, 0);
        Check.due("but time may be over", x.expire(15), 2);
        Check.isMessage("for none", x, x.count(1) - 2, PREVOTE, 15, 1, 0, NIL, -1);
        lastIs("then (e)", x, PRECOMMIT, 15, 1, 0, 2);
    }

    private static void lockNotAboveRoundBefore() {
        Check.sentence("LOCK is none or this BLOCK or of a ROUND not above w");
        for (int w = 0; w <= 2; w++) {
            Chain x = made();
            vote(x, PREVOTE, 1, 1, 1, 0, 10);
            Check.due("a lock of round 1", propose(x, 4, 1, 1, 1, -1, 15), 2);
            Check.stands("lock", x, 15, 1, 2, 1, 1, 1, 1);
            vote(x, PREVOTE, 1, w, 2, 0, 10);
            vote(x, PRECOMMIT, 1, 3, NIL, 0, 5);
            Check.due("proposer of round 3", x.told(15, 10), 10);
            Check.due("another block, before " + w, propose(x, 10, 1, 3, 2, w, 15), 1);
            lastIs("its prevote", x, PREVOTE, 15, 1, 3, w == 0 ? NIL : 2);
        }
    }

    private static void onceInARound() {
        Check.sentence("(e) In STEP 1 or 2, once in a ROUND");
        Chain x = made();
        x.deliver(0, 15);
        Check.due("the precommit", vote(x, PREVOTE, 1, 0, 1, 0, 10), 1);
        Check.due("no other", vote(x, PREVOTE, 1, 0, 1, 0, 10), 0);
        Check.due("log", x.told(15, 11), 24);
        vote(x, PRECOMMIT, 1, 1, NIL, 0, 5);
        propose(x, 4, 1, 1, 1, -1, 15);
        Check.due("again in the next one", vote(x, PREVOTE, 1, 1, 1, 0, 10), 1);
        Check.stands("lock and candidate of round 1", x, 15, 1, 2, 1, 1, 1, 1);
    }

    private static void stepZeroDoesNotLock() {
        Check.sentence("in STEP 1 LOCK becomes this BLOCK and ROUND; in any case CANDIDATE becomes them");
        Chain x = made();
        Check.due("a round before that is not there: no prevote", propose(x, 1, 1, 0, 1, 0, 15), 0);
        vote(x, PREVOTE, 1, 0, 1, 0, 10);
        Check.stands("step 0: neither", x, 15, 0, 0, -1, -1, -1, -1);
        Chain y = made();
        y.deliver(0, 15);
        vote(y, PREVOTE, 1, 0, NIL, 0, 10);
        Check.stands("step 2", y, 15, 0, 2, -1, -1, -1, -1);
        vote(y, PREVOTE, 1, 0, 1, 0, 8);
        Check.stands("ten with its own", y, 15, 0, 2, -1, -1, -1, -1);
        Check.due("nothing is sent", vote(y, PREVOTE, 1, 0, 1, 9, 9), 0);
        Check.stands("step 2: a candidate, no lock", y, 15, 0, 2, -1, -1, 1, 0);
    }

    private static void round31() {
        Check.sentence("no ROUND above 31 BEGINS");
        Chain x = made();
        vote(x, PREVOTE, 1, 30, NIL, 0, 5);
        Check.stands("round 30", x, 15, 30, 0);
        vote(x, PREVOTE, 1, 31, NIL, 0, 10);
        Check.stands("round 31", x, 15, 31, 0);
        vote(x, PRECOMMIT, 1, 31, NIL, 0, 10);
        Check.due("its votes", x.expire(15), 2);
        Check.due("time is over", x.expire(15), 0);
        Check.stands("it stays", x, 15, 31, 2);
        Check.due("log", x.told(15, 11), 24);
        Check.due("proposer of 31", x.told(15, 10), 0);
        propose(x, 0, 1, 31, 2, -1, 15);
        vote(x, PREVOTE, 1, 31, 2, 0, 10);
        Check.stands("(e) in round 31", x, 15, 31, 2, -1, -1, 2, 31);
        vote(x, PRECOMMIT, 1, 31, 2, 0, 10);
        Check.due("(a) in round 31", x.told(15, 3), 2);
        Chain y = made();
        vote(y, PREVOTE, 1, 30, NIL, 0, 10);
        vote(y, PRECOMMIT, 1, 30, NIL, 0, 10);
        y.expire(15);
        Check.due("from round 30", y.expire(15), 0);
        Check.stands("to round 31", y, 15, 31, 0);
    }

    private static void timeOver() {
        Check.sentence("Time is over for NODE n, if it is neither FAULTY nor DOWN");
        Chain x = made();
        Check.due("faulty", x.expire(0), 0);
        Check.due("step 0", x.expire(15), 1);
        lastIs("for none", x, PREVOTE, 15, 1, 0, NIL);
        Check.due("step 1", x.expire(15), 0);
        Check.stands("it waits", x, 15, 0, 1);
        x.power(14, 0);
        Check.due("power fails", x.expire(14), 0);
        Check.due("down", x.expire(14), 0);
        x.start(14);
        Check.due("up", x.expire(14), 1);
        Chain y = made();
        vote(y, PREVOTE, 1, 0, NIL, 0, 10);
        vote(y, PRECOMMIT, 1, 0, NIL, 0, 10);
        Check.due("one step of time, then what can be done", y.expire(15), 2);
        Check.stands("step 2", y, 15, 0, 2);
        Check.due("then the next round", y.expire(15), 0);
        Check.stands("round 1", y, 15, 1, 0);
    }

    private static void syncedBlocks() {
        Check.sentence("if it is neither FAULTY nor DOWN, b is GOOD for it: its HEIGHT");
        Chain x = made();
        for (int n = 0; n <= 10; n++) {
            x.forge(n, PRECOMMIT, 1, 0, 2, -1);
            x.forge(n, PRECOMMIT, 1, 0, 3, -1);
        }
        int child = x.block(0, 2, -1, -1, -1);
        for (int n = 0; n <= 10; n++) {
            x.forge(n, PRECOMMIT, 2, 0, child, -1);
        }
        Check.due("block 0", x.sync(15, 0), 1);
        Check.due("not sound", x.sync(15, 3), 1);
        Check.due("no precommits", x.sync(15, 1), 1);
        Check.due("not its parent", x.sync(15, child), 1);
        Check.due("a faulty node", x.sync(0, 2), 1);
        x.power(14, 7);
        x.expire(14);
        Check.due("one that is down", x.sync(14, 2), 1);
        x.start(14);
        Check.due("up", x.sync(14, 2), 2);
        Check.due("good", x.sync(15, 2), 2);
        Check.due("again", x.sync(15, 2), 2);
        Check.due("a rival", x.sync(15, 1), 2);
        Check.due("the child", x.sync(15, child), 3);
        x.fault(15);
        Check.due("its height", x.sync(15, 0), 3);
    }

    private static void newHeight() {
        Check.sentence("LAST becomes this BLOCK, LOCK and CANDIDATE are none, ROUND 0 BEGINS");
        Chain x = made();
        vote(x, PREVOTE, 1, 1, 1, 0, 10);
        propose(x, 4, 1, 1, 1, -1, 15);
        Check.stands("locked in round 1", x, 15, 1, 2, 1, 1, 1, 1);
        vote(x, PRECOMMIT, 1, 1, 1, 0, 10);
        Check.stands("height 2", x, 15, 0, 0, -1, -1, -1, -1);
        Check.due("log", x.told(15, 11), 0);
        Chain y = made();
        vote(y, PREVOTE, 1, 1, 1, 0, 10);
        propose(y, 4, 1, 1, 1, -1, 15);
        for (int n = 0; n <= 10; n++) {
            y.forge(n, PRECOMMIT, 1, 0, 2, -1);
        }
        Check.due("led on past its lock", y.sync(15, 2), 2);
        Check.stands("height 2", y, 15, 0, 0, -1, -1, -1, -1);
        Check.due("log", y.told(15, 11), 0);
    }

    private static void proposesTheCandidate() {
        Check.sentence("it sends a proposal: of the CANDIDATE, with its ROUND, if there is one; else of a new BLOCK with -1");
        Chain x = made();
        x.deliver(0, 13);
        Check.votes(x, Check.vote(PREVOTE, 1, 0, NIL), 0, 10, 13);
        Check.votes(x, Check.vote(PREVOTE, 1, 0, 1), 0, 9, 13);
        Check.stands("a candidate, no lock", x, 13, 0, 2, -1, -1, 1, 0);
        int blocks = x.count(2);
        Check.due("round 4", Check.votes(x, Check.vote(PRECOMMIT, 1, 4, NIL), 0, 5, 13), 2);
        Check.isMessage("the candidate", x, x.count(1) - 2, 0, 13, 1, 4, 1, 0);
        Check.due("no block is made", x.count(2), blocks);
        Chain y = made();
        Check.due("round 4", Check.votes(y, Check.vote(PRECOMMIT, 1, 4, NIL), 0, 5, 13), 2);
        Check.isMessage("a new block", y, y.count(1) - 2, 0, 13, 1, 4, 4, -1);
        Check.due("parent", y.of(4, 1), 0);
        Check.due("proposer", y.of(4, 2), 13);
    }
}
