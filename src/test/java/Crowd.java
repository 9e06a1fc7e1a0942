/**
 * Nearly 6000 MESSAGES in few calls. NODE 5 comes to have MOST alone, becomes FAULTY, and leads the others from ROUND to
 * ROUND at the HEIGHTS up to 119, where NODE 15 hears nothing of that: it stands in ROUND 0, STEP 0, KNOWS no MESSAGE of
 * this HEIGHT, and is the PROPOSER of ROUND 22. BLOCK h has HEIGHT h.
 */
final class Crowd {
    static final int LEADER = 5;
    static final int HEIGHT = 119;
    /** A ROUND of HEIGHT 119 whose PROPOSER is NODE 5, and which is led to NODE 15 alone. */
    static final int LED = 6;
    static final int OWN = 22;
    private static final int POWERS = 1600 + 4 * 999;

    final Chain x = new Chain();
    /** A precommit for none of ROUND 22: it leads NODE 15 there. */
    final int toOwn;
    /** A proposal, and a prevote, of ROUND 6 for BLOCK 119. */
    final int proposal;
    final int prevote;

    Crowd() {
        for (int a = 20; a < 24; a++) {
            x.submit(1, a, LEADER, 999);
        }
        for (int from = 0; from < 2900; from += 100) {
            x.spread(from, 100, Check.ALL);
        }
        x.spread(2900, 90, Check.ALL);
        x.fault(LEADER);
        int height = x.told(0, 0);
        while (height < HEIGHT) {
            int round = rounds(height);
            x.spread(x.forge(LEADER, 2, height, round, height, -1), 1, Check.ALL);
            height++;
        }
        Check.due("a crowd at height 119", x.told(15, 0), HEIGHT);
        Check.stands("NODE 15", x, 15, 0, 0, -1, -1, -1, -1);
        toOwn = x.forge(LEADER, 2, HEIGHT, OWN, -1, -1);
        proposal = x.forge(LEADER, 0, HEIGHT, LED, HEIGHT, -1);
        prevote = x.forge(LEADER, 1, HEIGHT, LED, HEIGHT, -1);
    }

    /** Leads all through those ROUNDS that have NODE 5 as PROPOSER, 32 MESSAGES in each: the last of them. */
    private int rounds(int height) {
        int first = x.count(1);
        int many = 0;
        int last = 0;
        for (int round = 1; round < 32; round++) {
            int mark = (131 * height + 307 * round) % POWERS;
            if (mark >= 500 && mark < 4596) {
                x.forge(LEADER, 0, height, round, height, -1);
                x.forge(LEADER, 1, height, round, height, -1);
                many += 2;
                last = round;
            }
        }
        x.spread(first, many, Check.ALL);
        return last;
    }

    /** Till there are so many MESSAGES; the last ones are votes that are nothing to anybody. */
    Chain filledTo(int size) {
        for (int m = x.count(1); m < size; m++) {
            x.forge(LEADER, 1, 1, 0, -1, -1);
        }
        Check.due("a crowd of this size", x.count(1), size);
        return x;
    }
}
