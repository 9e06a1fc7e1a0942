/** LOGS of Terms 3, and promises 10 and 11: each sentence that names an edge of a RECORD, of a loss of power or of a start. */
public final class LogEdgesTest {
    private static final int NIL = -1;
    private static final int PREVOTE = 1;
    private static final int PRECOMMIT = 2;

    public static void main(String[] args) {
        for (int bytes = 0; bytes <= 13; bytes++) {
            for (int way = 0; way < 6; way++) {
                recordOfSoManyBytes(way, bytes);
            }
            proposalWithoutRecords(bytes);
        }
        saidAgain();
        saidWrongly();
        saidToOneThatIsDown();
        saidToOneThatIsFaulty();
        atTheNextRecordOnly();
        overHeights();
        emptiedAtOnce();
        nothingTillItStarts();
        tellsNothing();
        withoutRecords();
        sentBefore();
        knowsItsRecordsInOrder();
        lockOfTheLastRecord();
        allRounds();
        startsThatAreNone();
        faultyKeepsItsLog();
        Check.end();
    }

    /** NODES 5 to 15 are FAULTY (they have MOST); NODE 4 is looked at, which is PROPOSER of ROUND 1. */
    private static Chain made() {
        Chain x = new Chain();
        Check.faultAll(x, 5, 15);
        return x;
    }

    private static int votes(Chain x, int kind, int round, int block, int from, int to) {
        return Check.votes(x, Check.vote(kind, 1, round, block), from, to, 4);
    }

    /** All but the last call of a way to a RECORD: by (c), by time (twice), by (e), by (f), by a new ROUND. */
    private static void prepare(int way, Chain x) {
        if (way == 2) {
            x.expire(4);
            votes(x, PREVOTE, 0, 1, 5, 9);
            votes(x, PREVOTE, 0, NIL, 10, 14);
        } else if (way == 3) {
            x.deliver(0, 4);
            votes(x, PREVOTE, 0, 1, 5, 13);
        } else if (way == 4) {
            x.expire(4);
            votes(x, PREVOTE, 0, NIL, 5, 13);
        } else if (way == 5) {
            votes(x, PREVOTE, 0, NIL, 5, 15);
            x.expire(4);
            votes(x, PRECOMMIT, 1, NIL, 5, 9);
        }
    }

    private static int last(int way, Chain x) {
        switch (way) {
            case 0: return x.deliver(0, 4);
            case 3: return votes(x, PREVOTE, 0, 1, 14, 14);
            case 4: return votes(x, PREVOTE, 0, NIL, 14, 14);
            case 5: return votes(x, PRECOMMIT, 1, NIL, 10, 10);
            default: return x.expire(4);
        }
    }

    private static void recordOfSoManyBytes(int way, int bytes) {
        Check.sentence("Power may fail at a RECORD: only so many of its bytes are written (way " + way + ", " + bytes + ")");
        int[] wholeBefore = {0, 0, 1, 1, 1, 2};
        int[] kinds = {1, 1, 2, 2, 2, 0};
        int[] blocks = {1, NIL, NIL, 1, NIL, 2};
        int rounds = way == 5 ? 1 : 0;
        Chain x = made();
        prepare(way, x);
        int log = 12 * wholeBefore[way];
        Check.due("log before", x.told(4, 11), log);
        x.power(4, bytes);
        int sent = last(way, x);
        if (bytes == 13) {
            Check.due("it does not fail: a new round brings a proposal and a prevote", sent, way == 5 ? 2 : 1);
            Check.due("up", x.told(4, 9), 0);
            Check.due("log", x.told(4, 11), log + 12 * sent);
            Check.isMessage("sent", x, x.count(1) - sent, kinds[way], 4, 1, rounds, blocks[way], -1);
            return;
        }
        Check.due("nothing is sent", sent, 0);
        Check.due("down", x.told(4, 9), 2);
        Check.due("so many bytes", x.told(4, 11), log + bytes);
        int all = x.count(1);
        int whole = wholeBefore[way] + (bytes == 12 ? 1 : 0);
        Check.due("whole records", x.start(4), whole);
        int now = x.count(1) - all;
        // Of a whole RECORD the MESSAGE is sent now; behind a proposal comes the prevote for it.
        Check.due("sent now", now, bytes < 12 ? 0 : way == 5 ? 2 : 1);
        Check.due("log: what is not whole is gone", x.told(4, 11), 12 * (wholeBefore[way] + now));
        Check.due("known", x.told(4, 8), wholeBefore[way] + now);
        if (bytes == 12) {
            Check.isMessage("sent", x, all, kinds[way], 4, 1, rounds, blocks[way], -1);
            Check.due("round", x.told(4, 1), rounds);
            Check.due("step behind it", x.told(4, 2), way == 5 ? 1 : kinds[way]);
        } else {
            int[] steps = {0, 0, 1, 1, 1, 2};
            Check.due("round of the record before", x.told(4, 1), 0);
            Check.due("step of the record before", x.told(4, 2), steps[way]);
        }
        Check.due("up", x.told(4, 9), 0);
        Check.due("once", x.count(8), 0);
    }

    /** NODE 2 proposes at HEIGHT 2, behind an empty LOG. */
    private static void proposalWithoutRecords(int bytes) {
        Check.sentence("without RECORDS ROUND 0 BEGINS (" + bytes + " bytes of a proposal)");
        Chain x = new Chain();
        x.spread(0, 20, Check.ALL);
        x.power(2, bytes);
        x.spread(20, 13, Check.ALL);
        Check.due("height 2", x.told(2, 0), 2);
        Check.due("its block is made before the record", x.count(2), 3);
        if (bytes == 13) {
            Check.due("proposal and prevote", x.told(2, 11), 24);
            return;
        }
        Check.due("neither", x.count(1), 33);
        Check.due("log", x.told(2, 11), bytes);
        Check.due("records", x.start(2), bytes == 12 ? 1 : 0);
        Check.due("a new block, if there is no record of the first", x.count(2), bytes == 12 ? 3 : 4);
        Check.isMessage("the proposal", x, 33, 0, 2, 2, 0, bytes == 12 ? 2 : 3, -1);
        Check.isMessage("the prevote", x, 34, PREVOTE, 2, 2, 0, bytes == 12 ? 2 : 3, -1);
        Check.due("log", x.told(2, 11), 24);
        Check.stands("started", x, 2, 0, 1, -1, -1, -1, -1);
    }

    private static void saidAgain() {
        Check.sentence("(13: it does not fail; what was said before is forgotten)");
        Chain x = new Chain();
        x.power(0, 12);
        x.power(0, 13);
        Check.due("sent", x.deliver(0, 0), 1);
        x.power(15, 13);
        Check.due("sent", x.deliver(0, 15), 1);
        x.power(14, 0);
        x.power(14, 11);
        Check.due("not sent", x.deliver(0, 14), 0);
        Check.due("the last that was said", x.told(14, 11), 11);
    }

    private static void saidWrongly() {
        Check.sentence("A call that throws changes nothing: IllegalArgumentException if b is not 0 to 13");
        Chain x = new Chain();
        x.power(15, 7);
        Check.due("14", () -> power(x, 15, 14), Check.IAE);
        Check.due("-1", () -> power(x, 15, -1), Check.IAE);
        Check.due("not sent", x.deliver(0, 15), 0);
        Check.due("as was said", x.told(15, 11), 7);
        Check.due("14", () -> power(x, 14, 14), Check.IAE);
        Check.due("sent", x.deliver(0, 14), 1);
    }

    private static int power(Chain x, int n, int b) {
        x.power(n, b);
        return 0;
    }

    private static void saidToOneThatIsDown() {
        Check.sentence("Power fails at the next RECORD of NODE n (which is DOWN)");
        Chain x = new Chain();
        x.power(15, 3);
        x.deliver(0, 15);
        x.power(15, 5);
        Check.due("log", x.told(15, 11), 3);
        Check.due("start", x.start(15), 0);
        Check.due("log", x.told(15, 11), 0);
        Check.due("the next one fails", x.deliver(0, 15), 0);
        Check.due("log", x.told(15, 11), 5);
        Check.due("start", x.start(15), 0);
        Check.due("then no more", x.deliver(0, 15), 1);
        Chain y = new Chain();
        y.power(15, 12);
        y.deliver(0, 15);
        y.power(15, 4);
        Check.due("start", y.start(15), 1);
        Check.due("what has its record needs no other", y.count(1), 3);
        Check.due("up", y.told(15, 9), 0);
        Check.due("log", y.told(15, 11), 12);
    }

    private static void saidToOneThatIsFaulty() {
        Check.sentence("Before a NODE that is not FAULTY sends something, a RECORD of 12 bytes comes to its LOG");
        Chain x = new Chain();
        x.power(15, 0);
        x.fault(15);
        x.power(15, 0);
        Check.due("sent", x.forge(15, 1, 1, 0, 0, -1), 2);
        Check.due("no record", x.told(15, 11), 0);
        Check.due("not down", x.told(15, 9), 1);
        Check.due("it knows it", x.told(15, 8), 1);
    }

    private static void atTheNextRecordOnly() {
        Check.sentence("Power fails at the next RECORD");
        Chain x = made();
        x.power(4, 0);
        Check.due("no record yet", x.deliver(1, 4), 0);
        Check.due("up", x.told(4, 9), 0);
        Check.due("it fails", x.deliver(0, 4), 0);
        Check.due("down", x.told(4, 9), 2);
        x.start(4);
        Check.due("it does not fail again", x.deliver(0, 4), 1);
        Check.due("nor at the next", votes(x, PREVOTE, 0, 1, 5, 15), 1);
        Chain y = made();
        votes(y, PREVOTE, 0, 1, 5, 15);
        y.power(4, 12);
        Check.due("two would be sent", y.deliver(0, 4), 0);
        Check.due("one record", y.told(4, 11), 12);
        Check.due("start", y.start(4), 1);
        Check.stands("the first of them", y, 4, 0, 1, -1, -1, -1, -1);
    }

    private static void overHeights() {
        Check.sentence("Power fails at the next RECORD (at another HEIGHT)");
        Chain x = made();
        x.power(4, 6);
        votes(x, PRECOMMIT, 0, 1, 5, 15);
        Check.due("decided without a record", x.sync(4, 1), 2);
        Check.due("up", x.told(4, 9), 0);
        Check.due("it fails", x.expire(4), 0);
        Check.due("log", x.told(4, 11), 6);
        Check.due("LAST lasts", x.told(4, 3), 1);
        Check.due("start", x.start(4), 0);
        Check.due("HEIGHT", x.told(4, 0), 2);
    }

    private static void emptiedAtOnce() {
        Check.sentence("With a new LAST its LOG is emptied, at once");
        Chain x = made();
        x.deliver(0, 4);
        votes(x, PREVOTE, 0, 1, 5, 15);
        Check.due("two records", x.told(4, 11), 24);
        votes(x, PRECOMMIT, 0, 1, 5, 14);
        Check.due("by (a)", x.told(4, 11), 0);
        Chain y = made();
        y.deliver(0, 4);
        for (int n = 5; n <= 15; n++) {
            y.forge(n, PRECOMMIT, 1, 9, 1, -1);
        }
        Check.due("one record", y.told(4, 11), 12);
        Check.due("by sync", y.sync(4, 1), 2);
        Check.due("empty", y.told(4, 11), 0);
        y.power(4, 12);
        y.expire(4);
        Check.due("a record of the new height alone", y.start(4), 1);
        Chain z = new Chain();
        z.spread(0, 33, Check.ALL);
        Check.due("NODE 2 proposes at once behind it", z.told(2, 11), 24);
        Check.due("another does not", z.told(3, 11), 0);
    }

    private static void nothingTillItStarts() {
        Check.sentence("it sends nothing, KNOWS nothing any more, and does nothing till it starts");
        Chain x = made();
        x.deliver(0, 4);
        x.power(4, 11);
        votes(x, PREVOTE, 0, 1, 5, 13);
        Check.due("known", x.told(4, 8), 11);
        votes(x, PREVOTE, 0, 1, 14, 14);
        Check.due("nothing is known", x.told(4, 8), 0);
        for (int n = 5; n <= 15; n++) {
            x.forge(n, PRECOMMIT, 1, 0, 1, -1);
        }
        int all = x.count(1);
        Check.due("deliver", x.deliver(0, 4), 0);
        Check.due("spread", x.spread(0, 100, 1 << 4), all);
        Check.due("expire", x.expire(4), 0);
        Check.due("sync", x.sync(4, 1), 1);
        Check.due("nothing is known", x.told(4, 8), 0);
        Check.due("nothing is sent", x.count(1), all);
        Check.due("log", x.told(4, 11), 23);
        Check.due("start", x.start(4), 1);
        Check.due("only what has a record is known", x.told(4, 8), 1);
    }

    private static void tellsNothing() {
        Check.sentence("(Of one that is DOWN 1, 2, 4 to 7 and 10 are -1, 8 is 0.)");
        Chain x = made();
        x.deliver(0, 4);
        votes(x, PREVOTE, 0, 1, 5, 15);
        Check.stands("locked", x, 4, 0, 2, 1, 0, 1, 0);
        x.power(4, 0);
        votes(x, PRECOMMIT, 1, NIL, 5, 10);
        int[] told = {1, -1, -1, 0, -1, -1, -1, -1, 0, 2, -1, 24};
        for (int what = 0; what < 12; what++) {
            Check.due("what " + what, x.told(4, what), told[what]);
        }
    }

    private static void withoutRecords() {
        Check.sentence("without RECORDS ROUND 0 BEGINS, LOCK and CANDIDATE are none");
        Chain x = made();
        votes(x, PREVOTE, 7, NIL, 5, 10);
        Check.stands("round 7", x, 4, 7, 0);
        x.power(4, 11);
        x.expire(4);
        Check.due("no whole record", x.start(4), 0);
        Check.stands("round 0", x, 4, 0, 0, -1, -1, -1, -1);
        Check.due("proposer of round 0", x.told(4, 10), 1);
        Check.due("log", x.told(4, 11), 0);
    }

    private static void sentBefore() {
        Check.sentence("if that of the last one was not sent, it is sent now");
        Chain x = made();
        x.deliver(0, 4);
        x.power(4, 0);
        votes(x, PREVOTE, 0, 1, 5, 14);
        int all = x.count(1);
        Check.due("one whole record", x.start(4), 1);
        Check.due("it was sent before", x.count(1), all);
        Chain y = made();
        y.deliver(0, 4);
        y.power(4, 12);
        votes(y, PREVOTE, 0, 1, 5, 14);
        all = y.count(1);
        Check.due("two whole records", y.start(4), 2);
        Check.due("the second was not", y.count(1), all + 1);
        y.power(4, 1);
        votes(y, PRECOMMIT, 1, NIL, 5, 10);
        Check.due("again two", y.start(4), 2);
        Check.due("now it was", y.message(y.count(1) - 1, 1), 10);
    }

    private static void knowsItsRecordsInOrder() {
        Check.sentence("it KNOWS the MESSAGES of its RECORDS (in order)");
        Chain x = made();
        votes(x, PRECOMMIT, 1, NIL, 5, 10);
        int own = x.count(1) - 2;
        Check.isMessage("its proposal", x, own, 0, 4, 1, 1, 2, -1);
        x.power(4, 9);
        votes(x, PREVOTE, 1, 2, 5, 14);
        Check.due("proposal and prevote", x.start(4), 2);
        Check.stands("round 1", x, 4, 1, 1, -1, -1, -1, -1);
        Check.due("both are known", x.told(4, 8), 2);
        Check.due("so they are nothing new", x.deliver(own, 4), 0);
        Check.due("still two", x.told(4, 8), 2);
        Check.due("its own proposal is the PROPOSAL", votes(x, PREVOTE, 1, 2, 5, 14), 1);
        Check.stands("locked", x, 4, 1, 2, 2, 1, 2, 1);
    }

    private static void lockOfTheLastRecord() {
        Check.sentence("else ROUND, STEP, LOCK, CANDIDATE are those of the last RECORD");
        Chain x = made();
        x.deliver(0, 4);
        votes(x, PREVOTE, 0, 1, 5, 14);
        Check.stands("locked", x, 4, 0, 2, 1, 0, 1, 0);
        votes(x, PREVOTE, 2, NIL, 5, 10);
        x.power(4, 12);
        x.expire(4);
        Check.due("three", x.start(4), 3);
        Check.stands("round 2, with lock and candidate", x, 4, 2, 1, 1, 0, 1, 0);
        x.power(4, 11);
        votes(x, PREVOTE, 2, NIL, 5, 14);
        Check.due("three again", x.start(4), 3);
        Check.stands("the same", x, 4, 2, 1, 1, 0, 1, 0);
    }

    /** NODE 5 leads NODE 13 alone through all ROUNDS of HEIGHT 3: two votes in each, and a proposal in ROUND 16. */
    private static void allRounds() {
        Check.sentence("ROUND (0 to 31): a RECORD of all that is sent");
        Chain x = new Chain();
        Check.faultAll(x, 0, 10);
        for (int a = 20; a < 24; a++) {
            x.submit(1, a, 5, 999);
        }
        int one = x.block(0, 0, 0, 1, -1);
        int two = x.block(0, one, 2, 3, -1);
        for (int n = 0; n <= 10; n++) {
            x.forge(n, PRECOMMIT, 1, 0, one, -1);
            x.forge(n, PRECOMMIT, 2, 0, two, -1);
        }
        x.sync(13, one);
        Check.due("height 3", x.sync(13, two), 3);
        for (int round = 0; round < 31; round++) {
            int sent = x.deliver(x.forge(5, PREVOTE, 3, round, NIL, -1), 13) + x.expire(13);
            Check.due("votes of round " + round, sent, round == 16 ? 3 : 2);
            Check.due("round", x.told(13, 1), round);
        }
        Check.due("log", x.told(13, 11), 63 * 12);
        x.deliver(x.forge(5, PREVOTE, 3, 31, NIL, -1), 13);
        x.power(13, 12);
        x.expire(13);
        Check.due("whole records", x.start(13), 64);
        Check.due("known", x.told(13, 8), 64);
        Check.stands("round 31", x, 13, 31, 1);
        x.power(13, 11);
        x.deliver(x.forge(5, PREVOTE, 3, 31, NIL, -1), 13);
        Check.due("log", x.told(13, 11), 64 * 12 + 11);
        Check.due("whole records", x.start(13), 64);
        Check.due("the last vote", x.deliver(x.forge(5, PREVOTE, 3, 31, NIL, -1), 13), 1);
        Check.due("log", x.told(13, 11), 65 * 12);
        Check.due("always 0", x.count(8), 0);
    }

    private static void startsThatAreNone() {
        Check.sentence("IllegalStateException if it is not DOWN");
        Chain x = new Chain();
        Check.due("up", () -> x.start(0), Check.ISE);
        x.power(0, 0);
        Check.due("up, though its power will fail", () -> x.start(0), Check.ISE);
        x.deliver(0, 0);
        Check.due("down", x.start(0), 0);
        Check.due("up again", () -> x.start(0), Check.ISE);
        x.fault(15);
        Check.due("faulty", () -> x.start(15), Check.ISE);
        Check.due("no node", () -> x.start(16), Check.IOOBE);
        Check.due("no node", () -> x.start(-1), Check.IOOBE);
    }

    private static void faultyKeepsItsLog() {
        Check.sentence("11: bytes of its LOG (of one that was DOWN and is FAULTY)");
        Chain x = made();
        x.deliver(0, 4);
        x.power(4, 7);
        votes(x, PREVOTE, 0, 1, 5, 14);
        Check.due("log", x.told(4, 11), 19);
        x.fault(4);
        Check.due("log", x.told(4, 11), 19);
        Check.due("it knew nothing", x.told(4, 8), 0);
        x.deliver(0, 4);
        Check.due("it hears", x.told(4, 8), 1);
        Check.due("no record of what it sends", x.forge(4, 1, 1, 0, 0, -1), x.count(1) - 1);
        Check.due("log", x.told(4, 11), 19);
    }
}
