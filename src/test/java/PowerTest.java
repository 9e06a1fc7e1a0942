/** Promises 10 and 11: loss of power at each byte of a RECORD, and what is there behind it. */
public final class PowerTest {
    private static final int NIL = -1;

    public static void main(String[] args) {
        for (int bytes = 0; bytes <= 12; bytes++) {
            firstVote(bytes);
            laterVote(bytes);
        }
        noFailure();
        proposalLost();
        proposalKept();
        precommitKept();
        lockLost();
        lockOutlastsPower();
        candidateWithoutRecord();
        failsAgain();
        newLastEmptiesTheLog();
        nothingToBothSides();
        Check.end();
    }

    private static void firstVote(int bytes) {
        Chain x = new Chain();
        x.power(5, bytes);
        Check.due("nothing is sent", x.deliver(0, 5), 0);
        int[] told = {1, -1, -1, 0, -1, -1, -1, -1, 0, 2, -1, bytes};
        for (int what = 0; what < told.length; what++) {
            Check.due("down at byte " + bytes + ", what " + what, x.told(5, what), told[what]);
        }
        boolean whole = bytes == 12;
        Check.due("start", x.start(5), whole ? 1 : 0);
        Check.due("the message is sent now, if the record is whole", x.count(1), whole ? 3 : 2);
        Check.due("known", x.told(5, 8), whole ? 1 : 0);
        Check.due("log", x.told(5, 11), whole ? 12 : 0);
        Check.due("up", x.told(5, 9), 0);
        Check.stands("started", x, 5, 0, whole ? 1 : 0, -1, -1, -1, -1);
        Check.due("not down", () -> x.start(5), Check.ISE);
        Check.due("it votes but once", x.deliver(0, 5), whole ? 0 : 1);
        Check.isMessage("the vote", x, 2, 1, 5, 1, 0, 1, -1);
        Check.due("always 0", x.count(8), 0);
    }

    private static void laterVote(int bytes) {
        Chain x = new Chain();
        Check.faultAll(x, 0, 10);
        x.deliver(0, 15);
        x.power(15, bytes);
        Check.due("precommit", Check.votes(x, Check.vote(1, 1, 0, NIL), 0, 10, 15), 0);
        Check.due("log", x.told(15, 11), 12 + bytes);
        int before = x.count(1);
        Check.due("start", x.start(15), bytes == 12 ? 2 : 1);
        Check.due("sent", x.count(1) - before, bytes == 12 ? 1 : 0);
        Check.due("log of whole records", x.told(15, 11), bytes == 12 ? 24 : 12);
        Check.due("it knows the messages of its records", x.told(15, 8), bytes == 12 ? 2 : 1);
        Check.stands("started", x, 15, 0, bytes == 12 ? 2 : 1, -1, -1, -1, -1);
        Check.due("it does not prevote again", x.deliver(0, 15), 0);
    }

    private static void noFailure() {
        Chain x = new Chain();
        x.power(5, 3);
        x.power(5, 13);
        Check.due("forgotten", x.deliver(0, 5), 1);
        x.power(6, 3);
        x.power(6, 7);
        x.deliver(0, 6);
        Check.due("the last that was said", x.told(6, 11), 7);
        x.start(6);
        Check.due("it fails but once", x.deliver(0, 6), 1);
    }

    /** NODE 2 proposes at HEIGHT 2: power fails there, behind an empty LOG. */
    private static Chain failAtProposal(int bytes) {
        Chain x = new Chain();
        x.spread(0, 17, Check.ALL);
        x.spread(17, 10, Check.ALL);
        x.power(2, bytes);
        int blocks = x.count(2);
        x.spread(17, 100, Check.ALL);
        Check.due("down", x.told(2, 9), 2);
        Check.due("it had decided", x.told(2, 3), 1);
        Check.due("the block was made", x.count(2), blocks + 1);
        Check.due("only what is left of that record", x.told(2, 11), bytes);
        return x;
    }

    private static void proposalLost() {
        Chain x = failAtProposal(11);
        int before = x.count(1);
        Check.due("no records", x.start(2), 0);
        Check.due("a new block is made", x.count(2), 4);
        Check.due("proposal and prevote", x.count(1), before + 2);
        Check.isMessage("the proposal", x, before, 0, 2, 2, 0, 3, -1);
        Check.isMessage("the prevote", x, before + 1, 1, 2, 2, 0, 3, -1);
        Check.due("log", x.told(2, 11), 24);
    }

    private static void proposalKept() {
        Chain x = failAtProposal(12);
        int before = x.count(1);
        Check.due("one record", x.start(2), 1);
        Check.due("no new block", x.count(2), 3);
        Check.isMessage("the proposal", x, before, 0, 2, 2, 0, 2, -1);
        Check.isMessage("the prevote", x, before + 1, 1, 2, 2, 0, 2, -1);
        x.spread(before, 100, Check.ALL);
        Check.due("all go on", x.count(7) > 1 ? 1 : 0, 1);
        Check.due("always 0", x.count(8), 0);
    }

    /** The RECORD of a precommit has the new LOCK, STEP 2, and the CANDIDATE that was before it. */
    private static void precommitKept() {
        Chain x = new Chain();
        Check.faultAll(x, 0, 10);
        x.deliver(0, 15);
        x.power(15, 12);
        Check.votes(x, Check.vote(1, 1, 0, 1), 0, 9, 15);
        Check.due("down", x.told(15, 9), 2);
        Check.due("two records", x.start(15), 2);
        Check.isMessage("sent now", x, x.count(1) - 1, 2, 15, 1, 0, 1, -1);
        Check.stands("locked", x, 15, 0, 2, 1, 0, -1, -1);
        x.deliver(0, 15);
        Check.votes(x, Check.vote(1, 1, 0, 1), 0, 8, 15);
        Check.stands("(e) was not done", x, 15, 0, 2, 1, 0, -1, -1);
        Check.due("nothing is sent again", Check.votes(x, Check.vote(1, 1, 0, 1), 9, 9, 15), 0);
        Check.stands("(e) is done again", x, 15, 0, 2, 1, 0, 1, 0);
    }

    /** A LOCK whose RECORD is not whole was never there: its precommit was not sent. */
    private static void lockLost() {
        Chain x = new Chain();
        Check.faultAll(x, 0, 10);
        x.deliver(0, 15);
        x.power(15, 11);
        Check.due("nothing is sent", Check.votes(x, Check.vote(1, 1, 0, 1), 0, 9, 15), 0);
        Check.due("one record", x.start(15), 1);
        Check.stands("no lock", x, 15, 0, 1, -1, -1, -1, -1);
        x.deliver(0, 15);
        Check.due("it precommits when it hears again", Check.votes(x, Check.vote(1, 1, 0, 1), 0, 9, 15), 1);
        Check.stands("locked", x, 15, 0, 2, 1, 0, 1, 0);
        Check.due("log", x.told(15, 11), 24);
    }

    private static void lockOutlastsPower() {
        Chain x = new Chain();
        Check.faultAll(x, 0, 10);
        x.block(0, 0, -1, -1, -1);
        x.deliver(0, 15);
        Check.votes(x, Check.vote(1, 1, 0, 1), 0, 9, 15);
        Check.stands("locked", x, 15, 0, 2, 1, 0, 1, 0);
        Check.votes(x, Check.vote(1, 1, 1, NIL), 0, 5, 15);
        Check.stands("round 1", x, 15, 1, 0, 1, 0, 1, 0);
        x.power(15, 4);
        x.deliver(x.forge(4, 0, 1, 1, 2, -1), 15);
        Check.due("two whole records", x.start(15), 2);
        Check.stands("back in round 0, with the lock", x, 15, 0, 2, 1, 0);
        Check.votes(x, Check.vote(1, 1, 1, NIL), 0, 5, 15);
        Check.due("round 1 again", x.deliver(x.forge(4, 0, 1, 1, 2, -1), 15), 1);
        Check.isMessage("for none", x, x.count(1) - 1, 1, 15, 1, 1, NIL, -1);
    }

    /** A CANDIDATE of STEP 2 is in no RECORD till the next one is written. */
    private static void candidateWithoutRecord() {
        Chain x = new Chain();
        Check.faultAll(x, 0, 10);
        x.deliver(0, 15);
        Check.votes(x, Check.vote(1, 1, 0, NIL), 0, 10, 15);
        Check.votes(x, Check.vote(1, 1, 0, 1), 0, 9, 15);
        Check.stands("a candidate", x, 15, 0, 2, -1, -1, 1, 0);
        Check.votes(x, Check.vote(1, 1, 1, NIL), 0, 5, 15);
        x.power(15, 12);
        x.expire(15);
        Check.due("three records", x.start(15), 3);
        Check.stands("the record of round 1 has it", x, 15, 1, 1, -1, -1, 1, 0);
        Chain y = new Chain();
        Check.faultAll(y, 0, 10);
        y.deliver(0, 15);
        Check.votes(y, Check.vote(1, 1, 0, NIL), 0, 10, 15);
        Check.votes(y, Check.vote(1, 1, 0, 1), 0, 9, 15);
        Check.votes(y, Check.vote(1, 1, 1, NIL), 0, 5, 15);
        y.power(15, 11);
        y.expire(15);
        Check.due("two records", y.start(15), 2);
        Check.stands("that of round 0 has not", y, 15, 0, 2, -1, -1, -1, -1);
    }

    private static void failsAgain() {
        Chain x = failAtProposal(0);
        x.power(2, 9);
        Check.due("no records", x.start(2), 0);
        Check.due("down again", x.told(2, 9), 2);
        Check.due("log", x.told(2, 11), 9);
        Check.due("a block each time", x.count(2), 4);
        Check.due("no records", x.start(2), 0);
        Check.due("up", x.told(2, 9), 0);
        Check.due("proposes", x.told(2, 11), 24);
        Chain y = failAtProposal(12);
        y.power(2, 1);
        int before = y.count(1);
        Check.due("one record", y.start(2), 1);
        Check.due("what has a record is sent without a new one", y.count(1), before + 1);
        Check.due("its prevote fails", y.told(2, 11), 13);
    }

    private static void newLastEmptiesTheLog() {
        Chain x = new Chain();
        Check.faultAll(x, 0, 10);
        x.deliver(0, 15);
        Check.due("log", x.told(15, 11), 12);
        Check.votes(x, Check.vote(2, 1, 0, 1), 0, 10, 15);
        Check.due("last", x.told(15, 3), 1);
        Check.due("empty", x.told(15, 11), 0);
        x.power(15, 6);
        x.expire(15);
        Check.due("down", x.told(15, 9), 2);
        Check.due("last outlasts power", x.told(15, 3), 1);
        Check.due("height", x.told(15, 0), 2);
        Check.due("no records", x.start(15), 0);
        Check.stands("round 0", x, 15, 0, 0, -1, -1, -1, -1);
    }

    private static void nothingToBothSides() {
        Chain x = new Chain();
        x.power(5, 0);
        x.deliver(0, 5);
        Check.due("sync", x.sync(5, 1), 1);
        Check.due("expire", x.expire(5), 0);
        Check.due("of those that are down count(7) knows", x.count(7), 0);
        x.power(1, 0);
        x.fault(1);
        Check.due("one that is faulty has no records", x.forge(1, 1, 1, 0, 0, -1), 2);
        Check.due("and does not fail", x.told(1, 9), 1);
    }
}
