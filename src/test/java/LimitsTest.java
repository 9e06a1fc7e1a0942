/** The document's limits: HEIGHTS 120 and 121, 300 BLOCKS, 6000 MESSAGES, 1500 TRANSACTIONS. */
public final class LimitsTest {
    private static final int NIL = -1;

    public static void main(String[] args) {
        allHeights();
        height120();
        height121();
        alone();
        lastBlock();
        proposerAndTheLastBlock();
        noBlockIsLeft();
        candidateWithAllBlocks();
        startWithAllBlocks();
        lastMessage();
        for (int size = 5997; size <= 6000; size++) {
            twoVotes(size);
            proposalAndVote(size);
            candidate(size);
        }
        timeOver();
        powerDoesNotFail();
        lastRecordIsNotSent();
        lastRecordIsSent();
        lastOnesCome();
        theLedgerGoesOn();
        transactions();
        Check.end();
    }

    private static void allHeights() {
        Check.sentence("at HEIGHT 121 a NODE does nothing");
        Chain x = new Chain();
        for (int from = 0; from < 4000; from += 100) {
            Check.due("from " + from, x.spread(from, 100, Check.ALL), from < 3900 ? 100 : 60);
        }
        Check.due("height of the last block", x.count(7), 120);
        Check.due("blocks", x.count(2), 121);
        Check.due("a proposal and two votes of each at each height", x.count(1), 120 * 33);
        for (int n = 0; n < 16; n++) {
            Check.due("height", x.told(n, 0), 121);
            Check.due("nothing in the log", x.told(n, 11), 0);
            Check.stands("nothing is done", x, n, 0, 0, -1, -1, -1, -1);
            Check.due("15851 mod 1600", x.told(n, 10), 14);
            Check.due("no time is over", x.expire(n), 0);
        }
        Check.due("all is known", x.told(3, 8), 120 * 33);
        Check.due("looks at 120, 60, 30, 60, 120, 90, 120", x.follow(120), 7);
        Check.due("trusted", x.count(4), 120);
        Check.due("no split", x.count(5), 0);
        Check.due("always 0", x.count(8), 0);
        Check.due("sum", x.sum(120, 20), 201600);
    }

    /** HEIGHT 120 is reached by all; 33 MESSAGES are left, all that there will be. */
    private static Chain atHeight120() {
        Chain x = new Chain();
        for (int height = 1; height < 120; height++) {
            x.spread(33 * (height - 1), 33, Check.ALL);
        }
        Check.due("height", x.told(0, 0), 120);
        return x;
    }

    private static void height120() {
        Check.sentence("if it is neither FAULTY nor DOWN, at HEIGHT 120 or below");
        Chain x = atHeight120();
        Check.due("time is over", x.expire(0), 1);
        Check.isMessage("for none", x, x.count(1) - 1, 1, 0, 120, 0, NIL, -1);
        Chain y = atHeight120();
        Check.faultAll(y, 0, 10);
        int b = y.block(0, 119, -1, -1, -1);
        for (int n = 0; n <= 10; n++) {
            y.forge(n, 2, 120, 31, b, -1);
        }
        Check.due("led on", y.sync(15, b), 121);
        Check.due("height of the block", y.of(b, 0), 120);
        Check.due("count(7)", y.count(7), 120);
    }

    private static void height121() {
        Check.sentence("at HEIGHT 121 a NODE does nothing (it hears)");
        Chain x = atHeight120();
        x.spread(33 * 119, 33, Check.ALL);
        Check.due("no more messages", x.count(1), 120 * 33);
        x.fault(0);
        int last = x.told(15, 3);
        int next = x.block(0, last, -1, -1, -1);
        Check.due("a block above", x.of(next, 0), 121);
        Check.due("it is sound", x.of(next, 3), 1);
        Check.due("is not synced", x.sync(15, next), 121);
        Check.due("no message of this height", () -> x.forge(0, 2, 121, 0, next, -1), Check.IAE);
        int m = x.forge(0, 1, 120, 31, next, -1);
        Check.due("it hears", x.deliver(m, 15), 0);
        Check.due("and knows", x.told(15, 8), 120 * 33 + 1);
        x.power(15, 0);
        Check.due("no time is over", x.expire(15), 0);
        Check.due("so power does not fail", x.told(15, 9), 0);
        Check.stands("round 0", x, 15, 0, 0, -1, -1, -1, -1);
    }

    /** One NODE has all the POWER, an amount of 1: it goes through all HEIGHTS in one call. */
    private static void alone() {
        Check.sentence("As long as one of these can be done");
        Chain x = new Chain();
        for (int n = 0; n < 16; n++) {
            x.submit(2, n, n, n == 15 ? 99 : 100);
        }
        Check.runTo(x, 120, Check.ALL);
        Check.due("height", x.told(15, 0), 121);
        Check.due("power", x.sum(3, 15), 1);
        Check.due("blocks", x.count(2), 121);
        for (int b = 4; b <= 120; b++) {
            Check.due("proposer", x.of(b, 2), 15);
        }
        int first = 60;
        while (x.message(first, 2) < 4) {
            first++;
        }
        for (int i = 0; i < 117; i += 29) {
            Check.isMessage("proposal", x, first + 3 * i, 0, 15, 4 + i, 0, 4 + i, -1);
            Check.isMessage("prevote", x, first + 3 * i + 1, 1, 15, 4 + i, 0, 4 + i, -1);
            Check.isMessage("precommit", x, first + 3 * i + 2, 2, 15, 4 + i, 0, 4 + i, -1);
        }
        Check.due("the others have not heard of it", x.told(0, 0) < 5 ? 1 : 0, 1);
        Check.due("block 3", x.follow(3), 1);
        Check.due("the client follows by that NODE", x.follow(43), 1);
        Check.due("sum", x.sum(120, 20), 201600);
    }

    /** NODES 0 to 10 are FAULTY, and there are so many BLOCKS. */
    private static Chain withBlocks(int many) {
        Chain x = new Chain();
        Check.faultAll(x, 0, 10);
        for (int b = 2; b < many; b++) {
            x.block(0, b - 1, -1, -1, -1);
        }
        Check.due("blocks", x.count(2), many);
        return x;
    }

    private static void lastBlock() {
        Check.sentence("IllegalStateException if there are 300 BLOCKS");
        Chain x = withBlocks(299);
        Check.due("the last one", x.block(10, 298, -1, -1, -1), 299);
        Check.due("its height", x.of(299, 0), 299);
        Check.due("sound", x.of(299, 3), 1);
        Check.due("no more", () -> x.block(0, 0, -1, -1, -1), Check.ISE);
        Check.due("wrong inputs come first", () -> x.block(0, 300, -1, -1, -1), Check.IAE);
        Check.due("300", x.count(2), 300);
        Check.due("no block 300", () -> x.of(300, 0), Check.IOOBE);
        Check.due("no block 300", () -> x.forge(0, 1, 1, 0, 300, -1), Check.IAE);
        Check.due("a vote for 299", x.forge(0, 1, 1, 0, 299, -1), 2);
        Check.due("no certificate for it", x.follow(299), -1);
        Check.due("sum", x.sum(299, 20), 201600);
    }

    /** NODE 13 is the PROPOSER of ROUND 4: 1359 of 1600. */
    private static int toRoundFour(Chain x) {
        return Check.votes(x, Check.vote(2, 1, 4, NIL), 0, 5, 13);
    }

    private static void proposerAndTheLastBlock() {
        Check.sentence("with 300 BLOCKS none is made (299)");
        Chain x = withBlocks(299);
        Check.due("proposal and prevote", toRoundFour(x), 2);
        Check.due("the last block", x.count(2), 300);
        Check.isMessage("of it", x, x.count(1) - 2, 0, 13, 1, 4, 299, -1);
        Check.due("its proposer", x.of(299, 2), 13);
        Check.due("no more", () -> x.block(0, 0, -1, -1, -1), Check.ISE);
    }

    private static void noBlockIsLeft() {
        Check.sentence("with 300 BLOCKS none is made (nor proposed)");
        Chain x = withBlocks(300);
        x.power(13, 0);
        Check.due("nothing is sent", toRoundFour(x), 0);
        Check.stands("the round has begun", x, 13, 4, 0, -1, -1, -1, -1);
        Check.due("no record", x.told(13, 11), 0);
        Check.due("so power does not fail", x.told(13, 9), 0);
        Check.due("blocks", x.count(2), 300);
        x.power(13, 13);
        Check.due("it goes on without", x.expire(13), 1);
        Chain y = withBlocks(300);
        Check.due("what there is comes, with 5 prevotes", y.spread(0, 100, Check.ALL), 7);
        Check.stands("a proposal of before", y, 15, 0, 1);
        int first = y.count(1);
        for (int n = 0; n <= 10; n++) {
            y.forge(n, 2, 1, 0, 1, -1);
        }
        Check.due("it is decided", y.spread(first, 100, Check.ALL), 11);
        Check.due("last", y.told(15, 3), 1);
    }

    private static void candidateWithAllBlocks() {
        Check.sentence("with 300 BLOCKS none is made (a CANDIDATE is there)");
        Chain x = withBlocks(300);
        x.deliver(0, 13);
        Check.votes(x, Check.vote(1, 1, 0, 1), 0, 9, 13);
        Check.due("the candidate is proposed all the same", toRoundFour(x), 2);
        Check.isMessage("of the candidate", x, x.count(1) - 2, 0, 13, 1, 4, 1, 0);
    }

    private static void startWithAllBlocks() {
        Check.sentence("with 300 BLOCKS none is made (when a NODE starts)");
        Chain x = new Chain();
        x.spread(0, 20, Check.ALL);
        x.power(2, 3);
        x.spread(20, 13, Check.ALL);
        Check.due("NODE 2 is down at its proposal", x.told(2, 9), 2);
        x.fault(0);
        for (int b = x.count(2); b < 300; b++) {
            x.block(0, 0, -1, -1, -1);
        }
        int messages = x.count(1);
        Check.due("start", x.start(2), 0);
        Check.due("nothing is proposed", x.count(1), messages);
        Check.due("it is the proposer", x.told(2, 10), 2);
        Check.stands("round 0", x, 2, 0, 0);
    }

    private static void lastMessage() {
        Check.sentence("IllegalStateException if nothing more is sent (6000 MESSAGES)");
        Chain x = new Crowd().filledTo(5999);
        Check.due("the last one", x.forge(5, 0, 120, 31, 0, 31), 5999);
        Check.due("no more", () -> x.forge(5, 0, 120, 31, 0, 31), Check.ISE);
        Check.due("wrong inputs come first", () -> x.forge(5, 3, 1, 0, 0, -1), Check.IAE);
        Check.due("one that is not faulty", () -> x.forge(0, 1, 1, 0, 0, -1), Check.ISE);
        Check.due("6000", x.count(1), 6000);
        Check.isMessage("the last one", x, 5999, 0, 5, 120, 31, 0, 31);
        Check.due("no message 6000", () -> x.message(6000, 0), Check.IOOBE);
        Check.due("no message 6000", () -> x.deliver(6000, 0), Check.IOOBE);
        Check.due("no message 6000", () -> x.submit(4, 0, 6000, 0), Check.IAE);
        Check.due("a proof by the last one", x.submit(4, 0, 5999, 0), 4);
        Check.due("spread from the end", x.spread(6000, 100, Check.ALL), 0);
        Check.due("spread from behind the end", () -> x.spread(6001, 100, Check.ALL), Check.IOOBE);
        Check.due("to the end", x.spread(5999, 100, Check.ALL), 1);
        Check.due("always 0", x.count(8), 0);
    }

    /** By one call NODE 15 would prevote and precommit. */
    private static void twoVotes(int size) {
        Check.sentence("When there are 6000 MESSAGES nothing more is sent (STEPS go on all the same): " + size);
        Crowd c = new Crowd();
        Chain x = c.filledTo(size);
        int known = x.told(15, 8);
        Check.due("round 6", x.deliver(c.prevote, 15), 0);
        Check.stands("round 6", x, 15, Crowd.LED, 0, -1, -1, -1, -1);
        int sent = Math.min(2, 6000 - size);
        Check.due("votes", x.deliver(c.proposal, 15), sent);
        Check.stands("step 2", x, 15, Crowd.LED, 2, 119, Crowd.LED, 119, Crowd.LED);
        Check.due("a record of each", x.told(15, 11), 12 * sent);
        Check.due("it knows those that were sent", x.told(15, 8), known + 2 + sent);
        Check.due("messages", x.count(1), size + sent);
    }

    private static void proposalAndVote(int size) {
        Check.sentence("nothing more is sent, and no BLOCK made to be proposed: " + size);
        Crowd c = new Crowd();
        Chain x = c.filledTo(size);
        int blocks = x.count(2);
        int sent = Math.min(2, 6000 - size);
        Check.due("round 22", x.deliver(c.toOwn, 15), sent);
        Check.due("it is the proposer", x.told(15, 10), 15);
        Check.due("blocks", x.count(2), blocks + (sent > 0 ? 1 : 0));
        Check.stands("prevoted, if there is a proposal", x, 15, Crowd.OWN, sent > 0 ? 1 : 0, -1, -1, -1, -1);
        Check.due("a record of each", x.told(15, 11), 12 * sent);
    }

    private static void candidate(int size) {
        Check.sentence("nothing more is sent (a proposal of the CANDIDATE): " + size);
        Crowd c = new Crowd();
        c.x.deliver(c.prevote, 15);
        c.x.deliver(c.proposal, 15);
        Check.stands("a candidate", c.x, 15, Crowd.LED, 2, 119, Crowd.LED, 119, Crowd.LED);
        Chain x = c.filledTo(size);
        int blocks = x.count(2);
        int sent = Math.min(2, 6000 - size);
        Check.due("round 22", x.deliver(c.toOwn, 15), sent);
        Check.due("no block", x.count(2), blocks);
        Check.stands("prevoted, if there is a proposal", x, 15, Crowd.OWN, sent > 0 ? 1 : 0, 119, Crowd.LED, 119, Crowd.LED);
        if (sent > 0) {
            Check.isMessage("of the candidate", x, size, 0, 15, 119, Crowd.OWN, 119, Crowd.LED);
        }
    }

    private static void timeOver() {
        Check.sentence("nothing more is sent (STEPS go on all the same): time is over");
        Crowd c = new Crowd();
        Chain x = c.filledTo(6000);
        Check.due("step 0", x.expire(15), 0);
        Check.stands("step 1", x, 15, 0, 1);
        Check.due("MOST is not known", x.expire(15), 0);
        Check.stands("step 1", x, 15, 0, 1);
        x.deliver(c.prevote, 15);
        Check.stands("round 6", x, 15, 6, 0);
        x.expire(15);
        Check.stands("prevoted", x, 15, 6, 1);
        x.expire(15);
        Check.stands("precommitted", x, 15, 6, 2);
        Check.due("its own precommit is not there", x.expire(15), 0);
        Check.stands("precommitted", x, 15, 6, 2);
        Check.due("no records", x.told(15, 11), 0);
    }

    private static void powerDoesNotFail() {
        Check.sentence("Before a NODE sends something, a RECORD comes to its LOG; power may fail at a RECORD: 6000");
        Crowd c = new Crowd();
        Chain x = c.filledTo(6000);
        x.power(15, 0);
        x.expire(15);
        Check.stands("step 1", x, 15, 0, 1);
        Check.due("up", x.told(15, 9), 0);
        Check.due("no record", x.told(15, 11), 0);
        Crowd d = new Crowd();
        Chain y = d.filledTo(5999);
        y.power(15, 12);
        y.expire(15);
        Check.due("of the last one there is a record", y.told(15, 11), 12);
        Check.due("down", y.told(15, 9), 2);
        Check.due("it was not sent", y.count(1), 5999);
    }

    private static void lastRecordIsNotSent() {
        Check.sentence("if that of the last one was not sent, it is sent now (if anything is): 6000");
        Crowd c = new Crowd();
        c.x.power(15, 12);
        c.x.expire(15);
        Chain x = c.filledTo(6000);
        Check.due("one record", x.start(15), 1);
        Check.due("it is not sent", x.count(1), 6000);
        Check.due("nor known", x.told(15, 8), 0);
        Check.stands("step 1 all the same", x, 15, 0, 1, -1, -1, -1, -1);
        Check.due("log", x.told(15, 11), 12);
    }

    private static void lastRecordIsSent() {
        Check.sentence("if that of the last one was not sent, it is sent now (if anything is): 5999");
        Crowd c = new Crowd();
        c.x.power(15, 12);
        c.x.expire(15);
        Chain x = c.filledTo(5999);
        Check.due("one record", x.start(15), 1);
        Check.isMessage("it is sent", x, 5999, 1, 15, 119, 0, NIL, -1);
        Check.due("and known", x.told(15, 8), 1);
    }

    private static void lastOnesCome() {
        Check.sentence("MESSAGES from m on, at most many: to the 6000th");
        Chain x = new Crowd().filledTo(6000);
        Check.due("all that are left", x.spread(5950, 100, Check.ALL), 50);
        Check.due("just these", x.spread(5950, 50, Check.ALL), 50);
        Check.due("one less", x.spread(5950, 49, Check.ALL), 49);
        Check.due("messages", x.count(1), 6000);
    }

    private static void theLedgerGoesOn() {
        Check.sentence("nothing more is sent (a FAULTY NODE makes BLOCKS, and NODES are led on)");
        Crowd c = new Crowd();
        int certificate = c.x.forge(Crowd.LEADER, 2, 119, 9, 119, -1);
        Chain x = c.filledTo(6000);
        Check.due("there is a certificate", x.message(certificate, 4), 119);
        Check.due("a block", x.block(5, 119, -1, -1, -1), 121);
        Check.due("led on", x.sync(15, 119), 120);
        Check.due("a transaction", x.submit(0, 0, 0, 1), 4);
    }

    /** A run has 512 calls at most, so that 1500 TRANSACTIONS are out of reach: this run goes beyond what is promised. */
    private static void transactions() {
        Check.sentence("IllegalStateException if there are 1500");
        StakeChain x = new StakeChain();
        for (int t = 0; t < 1499; t++) {
            x.submit(0, t % 200, 0, 1);
        }
        Check.due("the last one", x.submit(0, 199, 199, 1000000), 1499);
        Check.due("no more", () -> x.submit(0, 0, 0, 1), Check.ISE);
        Check.due("no more", () -> x.submit(4, 0, 0, 1), Check.ISE);
        Check.due("wrong inputs come first", () -> x.submit(0, 0, 0, 0), Check.IAE);
        Check.due("wrong inputs come first", () -> x.submit(4, 0, 0, 2), Check.IAE);
        Check.due("count", x.count(0), 1500);
        x.fault(0);
        Check.due("the last one in a block", x.of(x.block(0, 0, 1499, -1, -1), 5), 1499);
        Check.due("no transaction 1500", () -> x.block(0, 0, 1500, -1, -1), Check.IAE);
    }
}
