/** Promises 3 to 7, 12 and 13: the rules (a) to (f), with NODES 0 to 10 FAULTY (they have MOST) and NODE 15 looked at. */
public final class RulesTest {
    private static final int NIL = -1;

    public static void main(String[] args) {
        faults();
        delivering();
        spreading();
        ruleA();
        ownPrecommitDecides();
        leastRoundDecides();
        decidedOnlyByProposal();
        knewFirst();
        ruleB();
        greatestRound();
        ruleC();
        ruleCAndLocks();
        ruleD();
        ruleDAndLocks();
        ruleE();
        candidateInStepTwo();
        candidateIsProposed();
        ruleF();
        otherHeights();
        expiring();
        expiringInStepTwo();
        proposerOfPowers();
        proposerAtTheEdge();
        justThirds();
        noPowers();
        Check.end();
    }

    /** BLOCK 1 by NODE 1 (MESSAGES 0, 1), BLOCK 2 like it by NODE 0, BLOCK 3 that is not SOUND. */
    private static Chain made() {
        Chain x = new Chain();
        Check.faultAll(x, 0, 10);
        x.block(0, 0, -1, -1, -1);
        x.block(0, 0, -1, -1, 1);
        return x;
    }

    private static int propose(Chain x, int node, int round, int block, int before) {
        return x.deliver(x.forge(node, 0, 1, round, block, before), 15);
    }

    private static int[] prevote(int round, int block) {
        return Check.vote(1, 1, round, block);
    }

    private static int[] precommit(int round, int block) {
        return Check.vote(2, 1, round, block);
    }

    private static void faults() {
        Chain x = new Chain();
        Check.due("fault(1)", x.fault(1), 1);
        Check.due("fault(1) again", x.fault(1), 1);
        Check.due("fault(15)", x.fault(15), 2);
        Check.due("told", x.told(1, 9), 1);
        Check.due("it knows what it knew", x.told(1, 8), 2);
        Check.due("its log stays", x.told(1, 11), 24);
        Check.due("it hears", x.deliver(0, 15), 0);
        Check.due("it knows", x.told(15, 8), 1);
        Check.due("it does nothing", x.told(15, 2), 0);
        Check.due("time is nothing to it", x.expire(15), 0);
        Check.due("forge", x.forge(15, 2, 120, 31, -1, -1), 2);
        Check.due("it knows its own", x.told(15, 8), 2);
        Check.isMessage("forged", x, 2, 2, 15, 120, 31, -1, -1);
        Check.due("forge a proposal", x.forge(1, 0, 1, 0, 0, 31), 3);
        Check.isMessage("forged", x, 3, 0, 1, 1, 0, 0, 31);
        Check.due("no record of it", x.told(1, 11), 24);
        x.power(2, 0);
        x.deliver(0, 2);
        Check.due("down", x.told(2, 9), 2);
        Check.due("down, then faulty", x.fault(2), 3);
        Check.due("faulty", x.told(2, 9), 1);
        Check.due("it knew nothing", x.told(2, 8), 0);
        Check.due("not down any more", () -> x.start(2), Check.ISE);
        Check.due("count", x.count(3), 3);
    }

    private static void delivering() {
        Chain x = new Chain();
        Check.due("the proposal", x.deliver(0, 5), 1);
        Check.isMessage("its prevote", x, 2, 1, 5, 1, 0, 1, -1);
        Check.due("the same again", x.deliver(0, 5), 0);
        Check.due("its own", x.deliver(2, 5), 0);
        Check.due("known", x.told(5, 8), 2);
        Check.due("another", x.deliver(1, 5), 0);
        Check.due("known", x.told(5, 8), 3);
        x.power(6, 3);
        x.deliver(0, 6);
        Check.due("one that is down", x.deliver(1, 6), 0);
        Check.due("knows nothing", x.told(6, 8), 0);
    }

    private static void spreading() {
        Chain x = new Chain();
        Check.due("to nobody", x.spread(0, 100, 0), 2);
        Check.due("to nobody", x.spread(0, 100, 65536), 2);
        Check.due("nothing was sent", x.count(1), 2);
        Check.due("to 3 and 4", x.spread(0, 1, 0b11000), 1);
        Check.isMessage("3 first", x, 2, 1, 3, 1, 0, 1, -1);
        Check.isMessage("then 4", x, 3, 1, 4, 1, 0, 1, -1);
        Check.due("from the end", x.spread(4, 5, -1), 0);
        Check.due("to all, also those sent meanwhile", x.spread(0, 33, -1), 33);
        Check.due("16 votes twice and a proposal", x.message(32, 0), 2);
        Check.due("all have decided", x.told(0, 3), 1);
        Check.due("all have decided", x.told(15, 3), 1);
        Check.due("many", x.spread(0, 3, -1), 3);
        Check.isMessage("proposer of height 2", x, 33, 0, 2, 2, 0, 2, -1);
    }

    private static void ruleA() {
        Chain x = made();
        x.deliver(0, 15);
        Check.votes(x, precommit(0, 1), 1, 10, 15);
        Check.due("ten have not MOST", x.told(15, 3), 0);
        Check.due("eleven have", Check.votes(x, precommit(0, 1), 0, 0, 15), 0);
        Check.due("last", x.told(15, 3), 1);
        Check.due("height", x.told(15, 0), 2);
        Check.due("the log is empty", x.told(15, 11), 0);
        Check.stands("a new height", x, 15, 0, 0, -1, -1, -1, -1);
        Check.due("count(7)", x.count(7), 1);

        Chain y = made();
        Check.votes(y, precommit(0, 1), 0, 10, 15);
        Check.due("no proposal yet", y.told(15, 3), 0);
        Check.due("it comes last", y.deliver(0, 15), 0);
        Check.due("decided at once, without a vote", y.told(15, 3), 1);
    }

    /** What a NODE does may let it do more: here its own precommit is the eleventh. */
    private static void ownPrecommitDecides() {
        Chain x = made();
        x.deliver(0, 15);
        Check.votes(x, precommit(0, 1), 1, 10, 15);
        Check.due("the precommit", Check.votes(x, prevote(0, 1), 1, 10, 15), 1);
        Check.isMessage("the precommit", x, x.count(1) - 1, 2, 15, 1, 0, 1, -1);
        Check.due("decided by it", x.told(15, 3), 1);
        Check.due("the log is empty", x.told(15, 11), 0);
        Check.stands("a new height", x, 15, 0, 0, -1, -1, -1, -1);
    }

    private static void leastRoundDecides() {
        Chain x = made();
        Check.votes(x, precommit(1, 2), 0, 10, 15);
        Check.votes(x, precommit(0, 1), 0, 10, 15);
        x.forge(4, 0, 1, 1, 2, -1);
        x.power(15, 0);
        x.deliver(0, 15);
        Check.due("round 0", x.told(15, 3), 1);

        Chain y = made();
        Check.votes(y, precommit(1, 2), 0, 10, 15);
        Check.due("a later round decides too", propose(y, 4, 1, 2, -1), 0);
        Check.due("round 1", y.told(15, 3), 2);
        Check.due("split from none yet", y.count(5), 0);
        Check.votes(y, precommit(0, 1), 0, 10, 14);
        y.deliver(0, 14);
        Check.due("split", y.count(5), 1);
        Check.due("client at 0", y.count(6), 0);
    }

    private static void decidedOnlyByProposal() {
        Chain x = made();
        Check.votes(x, precommit(0, 2), 0, 10, 15);
        x.deliver(0, 15);
        Check.due("precommits for another than the proposal", x.told(15, 3), 0);
        propose(x, 1, 0, 2, -1);
        Check.due("only the first proposal counts", x.told(15, 3), 0);

        Chain y = made();
        Check.votes(y, precommit(0, 2), 0, 10, 15);
        propose(y, 2, 0, 2, -1);
        Check.due("not by the proposer", y.told(15, 3), 0);
        propose(y, 1, 0, NIL, -1);
        Check.due("without a block", y.told(15, 3), 0);
        propose(y, 1, 0, 2, 9);
        Check.due("any round before", y.told(15, 3), 2);

        Chain z = made();
        Check.votes(z, precommit(0, 3), 0, 10, 15);
        propose(z, 1, 0, 3, -1);
        Check.due("not sound", z.told(15, 3), 0);
    }

    /** The PROPOSAL is the one that the NODE KNEW first, not the one that was sent first. */
    private static void knewFirst() {
        Chain x = made();
        Check.due("sent last", propose(x, 1, 0, 2, -1), 1);
        lastVote("for it", x, 0, 2);
        Check.due("sent first", x.deliver(0, 15), 0);
        Check.due("precommit", Check.votes(x, prevote(0, 2), 0, 9, 15), 1);
        Check.stands("locked", x, 15, 0, 2, 2, 0, 2, 0);
        Check.votes(x, precommit(0, 1), 0, 10, 15);
        Check.due("not decided", x.told(15, 3), 0);
        Check.votes(x, precommit(0, 2), 0, 10, 15);
        Check.due("decided", x.told(15, 3), 2);

        Chain y = made();
        y.forge(1, 0, 1, 0, 2, -1);
        Check.due("NODE 14 knows the other first", y.deliver(y.count(1) - 1, 14), 1);
        Check.due("NODE 15 does not", y.deliver(0, 15), 1);
        lastVote("for the other", y, 0, 1);
    }

    private static void ruleB() {
        Chain x = made();
        x.deliver(x.forge(0, 0, 1, 5, NIL, 31), 15);
        x.deliver(x.forge(0, 1, 1, 5, 3, -1), 15);
        Check.votes(x, prevote(5, NIL), 1, 2, 15);
        Check.votes(x, precommit(5, 0), 3, 4, 15);
        Check.stands("five have not SOME", x, 15, 0, 0);
        Check.votes(x, precommit(5, 0), 5, 5, 15);
        Check.stands("six have", x, 15, 5, 0);
        Check.due("proposer of 131 and 1535 mod 1600", x.told(15, 10), 0);
        Check.votes(x, precommit(4, 0), 0, 10, 15);
        Check.stands("not back", x, 15, 5, 0);
    }

    private static void greatestRound() {
        Chain x = made();
        Chain y = made();
        for (int n = 0; n <= 4; n++) {
            x.deliver(x.forge(n, 1, 1, 30, NIL, -1), 15);
            x.deliver(x.forge(n, 1, 1, 31, NIL, -1), 15);
            y.deliver(y.forge(n, 1, 1, 7, NIL, -1), 15);
        }
        x.deliver(x.forge(5, 1, 1, 31, NIL, -1), 15);
        Check.stands("31", x, 15, 31, 0);
        y.deliver(y.forge(4, 1, 2, 7, NIL, -1), 15);
        y.deliver(y.forge(5, 1, 2, 7, NIL, -1), 15);
        Check.stands("another height is nothing", y, 15, 0, 0);
        y.deliver(y.forge(5, 2, 1, 7, 1, -1), 15);
        Check.stands("7", y, 15, 7, 0);
    }

    private static void ruleC() {
        Chain x = made();
        Check.due("good", x.deliver(0, 15), 1);
        Check.isMessage("prevote", x, x.count(1) - 1, 1, 15, 1, 0, 1, -1);
        Check.stands("step 1", x, 15, 0, 1, -1, -1, -1, -1);
        Chain y = made();
        Check.due("not sound", propose(y, 1, 0, 3, -1), 1);
        Check.isMessage("prevote for none", y, y.count(1) - 1, 1, 15, 1, 0, NIL, -1);
        Chain z = made();
        int child = z.block(0, 1, -1, -1, -1);
        Check.due("not on last", propose(z, 1, 0, child, -1), 1);
        Check.isMessage("prevote for none", z, z.count(1) - 1, 1, 15, 1, 0, NIL, -1);
    }

    /** NODE 15 locked on BLOCK 1 in ROUND 0, then in ROUND 1, whose PROPOSER is NODE 4. */
    private static Chain locked() {
        Chain x = made();
        x.deliver(0, 15);
        Check.votes(x, prevote(0, 1), 0, 9, 15);
        Check.stands("locked", x, 15, 0, 2, 1, 0, 1, 0);
        Check.votes(x, precommit(1, NIL), 5, 10, 15);
        Check.stands("still locked", x, 15, 1, 0, 1, 0, 1, 0);
        Check.due("proposer", x.told(15, 10), 4);
        return x;
    }

    private static void lastVote(String what, Chain x, int round, int block) {
        Check.isMessage(what, x, x.count(1) - 1, 1, 15, 1, round, block, -1);
    }

    private static void ruleCAndLocks() {
        Chain x = locked();
        Check.due("another block", propose(x, 4, 1, 2, -1), 1);
        lastVote("for none", x, 1, NIL);
        Chain y = locked();
        Check.due("the same block", propose(y, 4, 1, 1, -1), 1);
        lastVote("for it", y, 1, 1);
    }

    private static void ruleD() {
        Chain x = made();
        Check.due("a round before that is not before", propose(x, 1, 0, 1, 0), 0);
        Check.votes(x, prevote(0, 1), 0, 10, 15);
        Check.stands("nothing", x, 15, 0, 0);
        Chain y = made();
        Check.votes(y, precommit(2, NIL), 0, 5, 15);
        Check.due("round 2: 745 of 1600", y.told(15, 10), 7);
        Check.due("no prevotes yet", propose(y, 7, 2, 2, 1), 0);
        Check.votes(y, prevote(1, 2), 0, 9, 15);
        Check.stands("not MOST", y, 15, 2, 0);
        Check.due("in another round", Check.votes(y, prevote(0, 2), 10, 10, 15), 0);
        Check.due("MOST", Check.votes(y, prevote(1, 2), 10, 10, 15), 1);
        lastVote("for it", y, 2, 2);
        Chain z = made();
        Check.votes(z, precommit(2, NIL), 0, 5, 15);
        Check.votes(z, prevote(1, 3), 0, 10, 15);
        Check.due("not sound", propose(z, 7, 2, 3, 1), 1);
        lastVote("for none", z, 2, NIL);
    }

    private static void ruleDAndLocks() {
        Chain x = locked();
        Check.votes(x, prevote(0, 2), 0, 10, 15);
        Check.due("lock of round 0, before 0", propose(x, 4, 1, 2, 0), 1);
        lastVote("for it", x, 1, 2);
        Chain y = locked();
        // Locked again, in round 1 this time.
        propose(y, 4, 1, 1, -1);
        Check.votes(y, prevote(1, 1), 0, 9, 15);
        Check.stands("locked in round 1", y, 15, 1, 2, 1, 1, 1, 1);
        Check.votes(y, prevote(0, 2), 0, 10, 15);
        Check.votes(y, precommit(2, NIL), 0, 5, 15);
        Check.due("lock of round 1, before 0", propose(y, 7, 2, 2, 0), 1);
        lastVote("for none", y, 2, NIL);
        Check.votes(y, precommit(3, NIL), 0, 5, 15);
        Check.due("round 3: 1052 of 1600", y.told(15, 10), 10);
        Check.due("the block of the lock", propose(y, 10, 3, 1, 0), 1);
        lastVote("for it", y, 3, 1);
    }

    private static void ruleE() {
        Chain x = made();
        Check.votes(x, prevote(0, 1), 0, 10, 15);
        Check.stands("no proposal", x, 15, 0, 0);
        Check.due("prevote and precommit at once", x.deliver(0, 15), 2);
        Check.isMessage("prevote", x, x.count(1) - 2, 1, 15, 1, 0, 1, -1);
        Check.isMessage("precommit", x, x.count(1) - 1, 2, 15, 1, 0, 1, -1);
        Check.stands("locked", x, 15, 0, 2, 1, 0, 1, 0);
        Chain y = made();
        propose(y, 1, 0, 3, -1);
        Check.due("not good: own prevote is for none", Check.votes(y, prevote(0, 3), 0, 10, 15), 0);
        Check.stands("not locked", y, 15, 0, 1, -1, -1, -1, -1);
    }

    private static void candidateInStepTwo() {
        Chain x = made();
        x.deliver(0, 15);
        Check.due("prevotes for none", Check.votes(x, prevote(0, NIL), 0, 10, 15), 1);
        Check.isMessage("precommit for none", x, x.count(1) - 1, 2, 15, 1, 0, NIL, -1);
        Check.stands("step 2", x, 15, 0, 2, -1, -1, -1, -1);
        Check.due("nothing more is sent", Check.votes(x, prevote(0, 1), 0, 9, 15), 0);
        Check.stands("a candidate without a lock", x, 15, 0, 2, -1, -1, 1, 0);
    }

    private static void candidateIsProposed() {
        Chain x = new Chain();
        Check.faultAll(x, 0, 10);
        x.deliver(0, 13);
        Check.votes(x, prevote(0, 1), 0, 9, 13);
        int blocks = x.count(2);
        Check.due("round 4: 1359 of 1600: propose, and wait for prevotes of round 0", Check.votes(x, precommit(4, NIL), 0, 5, 13), 2);
        Check.isMessage("of the candidate", x, x.count(1) - 2, 0, 13, 1, 4, 1, 0);
        Check.isMessage("and prevotes for it", x, x.count(1) - 1, 1, 13, 1, 4, 1, -1);
        Check.due("no new block", x.count(2), blocks);
        Chain y = new Chain();
        Check.faultAll(y, 0, 10);
        Check.due("without a candidate", Check.votes(y, precommit(4, NIL), 0, 5, 13), 2);
        Check.isMessage("a new block", y, y.count(1) - 2, 0, 13, 1, 4, 2, -1);
        Check.due("it made it", y.of(2, 2), 13);
    }

    private static void ruleF() {
        Chain x = made();
        Check.due("step 0", Check.votes(x, prevote(0, NIL), 0, 10, 15), 0);
        Check.stands("step 0", x, 15, 0, 0);
        Check.due("prevote, then precommit for none", x.expire(15), 2);
        Check.isMessage("precommit", x, x.count(1) - 1, 2, 15, 1, 0, NIL, -1);
        Check.stands("no lock", x, 15, 0, 2, -1, -1, -1, -1);
    }

    private static void otherHeights() {
        Chain x = made();
        int child = x.block(0, 1, -1, -1, -1);
        Check.votes(x, Check.vote(2, 2, 0, child), 0, 10, 15);
        x.deliver(x.forge(2, 0, 2, 0, child, -1), 15);
        Check.votes(x, precommit(0, 1), 0, 10, 15);
        Check.due("height 1 still", x.told(15, 0), 1);
        Check.due("both heights at once", x.deliver(0, 15), 0);
        Check.due("last", x.told(15, 3), child);
        Check.due("known", x.told(15, 8), 24);
    }

    private static void expiring() {
        Chain x = made();
        Check.due("step 0", x.expire(15), 1);
        Check.isMessage("prevote for none", x, x.count(1) - 1, 1, 15, 1, 0, NIL, -1);
        Check.due("step 1, not MOST", x.expire(15), 0);
        Check.votes(x, prevote(0, 1), 0, 4, 15);
        Check.votes(x, prevote(0, 2), 5, 8, 15);
        Check.due("ten with its own", x.expire(15), 0);
        Check.votes(x, prevote(0, 3), 9, 9, 15);
        Check.due("eleven, for whatever", x.expire(15), 1);
        Check.isMessage("precommit for none", x, x.count(1) - 1, 2, 15, 1, 0, NIL, -1);
        Check.stands("step 2", x, 15, 0, 2);
        x.power(14, 5);
        Check.due("power fails", x.expire(14), 0);
        Check.due("down", x.told(14, 9), 2);
        Check.due("no time is over", x.expire(14), 0);
        Check.due("five bytes", x.told(14, 11), 5);
    }

    private static void expiringInStepTwo() {
        Chain x = made();
        x.deliver(0, 15);
        Check.votes(x, prevote(0, NIL), 0, 10, 15);
        Check.votes(x, precommit(0, 1), 0, 4, 15);
        Check.votes(x, precommit(0, NIL), 4, 8, 15);
        Check.due("ten with its own: 4 is one", x.expire(15), 0);
        Check.stands("round 0", x, 15, 0, 2);
        Check.votes(x, precommit(0, 2), 9, 9, 15);
        Check.due("eleven", x.expire(15), 0);
        Check.stands("round 1", x, 15, 1, 0);
        Check.votes(x, precommit(30, NIL), 0, 5, 15);
        Check.stands("round 30", x, 15, 30, 0);
        for (int round = 30; round <= 31; round++) {
            Check.votes(x, prevote(round, NIL), 0, 9, 15);
            Check.votes(x, precommit(round, NIL), 0, 9, 15);
            Check.due("prevote and precommit for none", x.expire(15), 2);
            Check.due("nothing is sent", x.expire(15), 0);
            Check.stands("no round above 31", x, 15, 31, round == 30 ? 0 : 2);
        }
        Check.due("two votes in each of three rounds", x.told(15, 11), 72);
        Check.due("always 0", x.count(8), 0);
    }

    /** The PROPOSER is by the POWERS in the STATE of LAST. */
    private static void proposerOfPowers() {
        Chain x = new Chain();
        x.submit(1, 20, 0, 900);
        x.submit(2, 1, 1, 100);
        Check.runTo(x, 3, Check.ALL);
        Check.due("height 3: 393 of 2400, NODE 0 has 1000", x.of(3, 2), 0);
        Check.due("sum of powers", x.sum(2, 0), 1000);
        Check.runTo(x, 9, Check.ALL);
        Check.due("height 9: 1179 of 2400, NODE 1 has none: 1000, 1000, 1100, 1200", x.of(9, 2), 3);
    }

    private static void proposerAtTheEdge() {
        Chain x = made();
        Check.votes(x, precommit(22, NIL), 0, 5, 15);
        Check.due("131 and 22 times 307 mod 1600: 485", x.told(15, 10), 4);
        Chain y = new Chain();
        Check.runTo(y, 3, Check.ALL);
        Check.due("height 3, round 0: 393", y.of(3, 2), 3);
        Chain z = made();
        int one = z.block(0, 0, -1, -1, -1);
        int two = z.block(0, one, -1, -1, -1);
        for (int n = 0; n <= 10; n++) {
            z.forge(n, 2, 1, 0, one, -1);
            z.forge(n, 2, 2, 0, two, -1);
        }
        z.sync(15, one);
        z.sync(15, two);
        Check.votes(z, Check.vote(2, 3, 1, NIL), 0, 5, 15);
        Check.due("height 3, round 1: just 700, so NODE 7 and not 6", z.told(15, 10), 7);
    }

    /** With T 1500, ten NODES have just 2 thirds and five just a third: that is not above. */
    private static void justThirds() {
        Chain x = made();
        x.submit(2, 15, 15, 100);
        int one = x.block(0, 0, 0, -1, -1);
        int two = x.block(0, one, -1, -1, -1);
        for (int n = 0; n <= 10; n++) {
            x.forge(n, 2, 1, 0, one, -1);
        }
        x.sync(14, one);
        x.sync(13, one);
        Check.due("sum of powers", x.sum(one, 15), 0);
        for (int n = 1; n <= 10; n++) {
            x.forge(n, 2, 2, 0, two, -1);
        }
        Check.due("not MOST", x.sync(14, two), 2);
        Check.votes(x, Check.vote(2, 2, 3, NIL), 1, 5, 13);
        Check.stands("not SOME", x, 13, 0, 0);
        Check.votes(x, Check.vote(2, 2, 3, NIL), 6, 6, 13);
        Check.stands("SOME", x, 13, 3, 0);
        x.forge(0, 2, 2, 0, two, -1);
        Check.due("MOST", x.sync(14, two), 3);
    }

    /** Without POWERS there is no PROPOSER, and nobody has SOME or MOST. */
    private static void noPowers() {
        Chain x = new Chain();
        for (int n = 0; n < 16; n++) {
            x.submit(2, n, n, 100);
        }
        int from = 0;
        for (int calls = 0; calls < 9; calls++) {
            from += x.spread(from, 30, Check.ALL);
        }
        Check.due("twelve went in block 2", x.of(2, 4), 12);
        Check.due("393 mod 400: NODE 15", x.of(3, 2), 15);
        Check.due("four in block 3", x.of(3, 4), 4);
        Check.due("all stop there", x.count(7), 3);
        Check.due("no block", x.count(2), 4);
        Check.due("no bonds", x.sum(3, 19), 0);
        for (int n = 0; n < 16; n++) {
            Check.due("last", x.told(n, 3), 3);
            Check.due("no proposer", x.told(n, 10), -1);
            Check.due("prevote for none", x.expire(n), 1);
        }
        x.spread(from, 30, Check.ALL);
        Check.due("nobody has MOST", x.expire(0), 0);
        Check.stands("step 1", x, 0, 0, 1, -1, -1, -1, -1);
        Check.due("nothing to lead on", x.sync(0, 3), 4);
    }
}
