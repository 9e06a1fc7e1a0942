/** Terms 1 and 2: each sentence that names an edge of the LEDGER or of a BLOCK, by BLOCKS that a FAULTY NODE makes. */
public final class LedgerEdgesTest {
    private static final int NIL = -1;

    public static void main(String[] args) {
        firstState();
        feeOfEachKind();
        feeComesToTheProposer();
        paymentOfAllThatIsThere();
        bondOfAllThatIsThere();
        bondComesOnce();
        roomForNinetySixBonds();
        unbondOfAllThatIsThere();
        returnIsDueFourHeightsOn();
        roomForThirtyTwoReturns();
        returnsComeFirst();
        freeing();
        proofOfTheBlocksHeight();
        proofAboveTheProvedHeight();
        proofAtHeight120();
        proofKinds();
        quarters();
        bondsOfOthers();
        notValidDoesNothing();
        order();
        twelveInABlock();
        noMoreBondsAreProposed();
        notInTheChainOfLast();
        soundParents();
        soundClaims();
        standsTwice();
        nothingGoesIn();
        Check.end();
    }

    /** NODE 0 is FAULTY and makes the BLOCKS; the first of them has number 2. */
    private static Chain maker() {
        Chain x = new Chain();
        x.fault(0);
        return x;
    }

    /** 1 if a BLOCK of NODE 0 with these TRANSACTIONS is SOUND. */
    private static int sound(Chain x, int parent, int one, int two) {
        return x.of(x.block(0, parent, one, two, -1), 3);
    }

    private static int grow(Chain x, int parent, int many) {
        int tip = parent;
        for (int i = 0; i < many; i++) {
            tip = x.block(0, tip, -1, -1, -1);
        }
        return tip;
    }

    /** A BLOCK in which ACCOUNT a has this BALANCE, having paid the rest to ACCOUNT 190. */
    private static int withBalance(Chain x, int a, int balance) {
        return x.block(0, 0, x.submit(0, a, 190, 999 - balance), -1, -1);
    }

    private static void firstState() {
        Check.sentence("ACCOUNT n has a BOND of 100 with NODE n (0 to 15), there is nothing else");
        Chain x = new Chain();
        Check.due("balance of the first", x.account(0, 0, 0), 1000);
        Check.due("balance of the last", x.account(0, 199, 0), 1000);
        Check.due("no account 200", () -> x.account(0, 200, 0), Check.IOOBE);
        Check.due("bond of 0", x.account(0, 0, 1), 100);
        Check.due("bond of 15", x.account(0, 15, 16), 100);
        for (int what = 1; what <= 17; what++) {
            Check.due("bonds and returns of 16", x.account(0, 16, what), 0);
        }
        Check.due("bond of 15 with 14", x.account(0, 15, 15), 0);
        Check.due("bonds", x.sum(0, 19), 16);
        Check.due("power of 0", x.sum(0, 0), 100);
        Check.due("power of 15", x.sum(0, 15), 100);
        Check.due("jailed", x.sum(0, 16), 0);
        Check.due("burnt", x.sum(0, 17), 0);
        Check.due("returns", x.sum(0, 18), 0);
        Check.due("all together", x.sum(0, 20), 201600);
    }

    private static void feeOfEachKind() {
        Check.sentence("Of all a fee of 1 is taken from BALANCE a (which must be there)");
        Chain x = maker();
        x.fault(2);
        int proof = x.submit(4, 3, x.forge(2, 1, 1, 0, 0, -1), x.forge(2, 1, 1, 0, NIL, -1));
        int later = x.submit(4, 3, x.forge(2, 1, 2, 0, 0, -1), x.forge(2, 1, 2, 0, NIL, -1));
        int unbond = x.submit(2, 3, 3, 1);
        int free = x.submit(3, 3, 2, 0);
        int pay = x.submit(0, 3, 4, 1);
        int bond = x.submit(1, 3, 4, 1);
        int other = x.submit(4, 9, x.forge(2, 2, 1, 0, 0, -1), x.forge(2, 2, 1, 0, NIL, -1));
        int one = withBalance(x, 3, 1);
        int none = withBalance(x, 3, 0);
        Check.due("one is left", x.account(one, 3, 0), 1);
        Check.due("none is left", x.account(none, 3, 0), 0);
        Check.due("unbond with 1", sound(x, one, unbond, NIL), 1);
        Check.due("unbond with 0", sound(x, none, unbond, NIL), 0);
        Check.due("proof with 1", sound(x, one, proof, NIL), 1);
        Check.due("proof with 0", sound(x, none, proof, NIL), 0);
        Check.due("free with 1", sound(x, one, other, free), 1);
        Check.due("free with 0", sound(x, none, other, free), 0);
        Check.due("pay with 1", sound(x, one, pay, NIL), 0);
        Check.due("bond with 1", sound(x, one, bond, NIL), 0);
        Check.due("the second fee is not there", sound(x, one, unbond, later), 0);
    }

    private static void feeComesToTheProposer() {
        Check.sentence("and comes to the BALANCE of ACCOUNT p, p being the PROPOSER of the BLOCK");
        for (int p : new int[] {0, 15}) {
            Chain x = new Chain();
            x.fault(p);
            int t = x.submit(2, 7, 7, 1);
            int b = x.block(p, 0, t, -1, -1);
            Check.due("the proposer", x.account(b, p, 0), 1001);
            Check.due("who pays", x.account(b, 7, 0), 999);
            Check.due("nobody else", x.account(b, 15 - p, 0), 1000);
        }
        Chain x = maker();
        int own = x.submit(2, 0, 0, 1);
        Check.due("its own fee", x.account(x.block(0, 0, own, -1, -1), 0, 0), 1000);
        int all = x.submit(0, 0, 5, 1000);
        int more = x.submit(0, 0, 5, 1001);
        Check.due("the fee is there again before the amount is looked at", sound(x, 0, all, NIL), 1);
        Check.due("one more is not there", sound(x, 0, more, NIL), 0);
    }

    private static void paymentOfAllThatIsThere() {
        Check.sentence("KIND 0 pays: then v from BALANCE a (there must be as much) to ACCOUNT b");
        Chain x = maker();
        int all = x.submit(0, 199, 198, 999);
        int more = x.submit(0, 199, 198, 1000);
        int most = x.submit(0, 199, 198, 1000000);
        int least = x.submit(0, 199, 198, 1);
        int self = x.submit(0, 199, 199, 999);
        int toProposer = x.submit(0, 199, 0, 999);
        int b = x.block(0, 0, all, -1, -1);
        Check.due("all but the fee", x.of(b, 3), 1);
        Check.due("who pays", x.account(b, 199, 0), 0);
        Check.due("who is paid", x.account(b, 198, 0), 1999);
        Check.due("one more", sound(x, 0, more, NIL), 0);
        Check.due("a million", sound(x, 0, most, NIL), 0);
        Check.due("one", sound(x, 0, least, NIL), 1);
        Check.due("nothing is left for one", sound(x, b, least, NIL), 0);
        Check.due("to itself", x.account(x.block(0, 0, self, -1, -1), 199, 0), 999);
        Check.due("to the proposer", x.account(x.block(0, 0, toProposer, -1, -1), 0, 0), 2000);
    }

    private static void bondOfAllThatIsThere() {
        Check.sentence("1 bonds: v from BALANCE a to the BOND of a with NODE b");
        Chain x = maker();
        int all = x.submit(1, 199, 15, 999);
        int more = x.submit(1, 199, 15, 1000);
        int b = x.block(0, 0, all, -1, -1);
        Check.due("all but the fee", x.of(b, 3), 1);
        Check.due("nothing is left", x.account(b, 199, 0), 0);
        Check.due("bond", x.account(b, 199, 16), 999);
        Check.due("power", x.sum(b, 15), 1099);
        Check.due("one more", sound(x, 0, more, NIL), 0);
    }

    private static void bondComesOnce() {
        Check.sentence("(which comes, if there is none)");
        Chain x = maker();
        int one = x.submit(1, 30, 0, 1);
        int two = x.submit(1, 30, 0, 2);
        int elsewhere = x.submit(1, 30, 1, 4);
        int other = x.submit(1, 31, 0, 8);
        int b = x.block(0, 0, one, two, -1);
        Check.due("one for both", x.sum(b, 19), 17);
        Check.due("together", x.account(b, 30, 1), 3);
        b = x.block(0, b, elsewhere, other, -1);
        Check.due("with another node, and of another account", x.sum(b, 19), 19);
        Check.due("it stays", x.account(b, 30, 1), 3);
        Check.due("with node 1", x.account(b, 30, 2), 4);
        Check.due("of account 31", x.account(b, 31, 1), 8);
    }

    private static void roomForNinetySixBonds() {
        Check.sentence("BONDS, one for each such two, at most 96; there must be room");
        Chain x = maker();
        int b = 0;
        for (int i = 0; i < 78; i += 2) {
            b = x.block(0, b, x.submit(1, 20 + i, i % 16, 1), x.submit(1, 21 + i, 15, 1), -1);
        }
        Check.due("94", x.sum(b, 19), 94);
        int one = x.submit(1, 110, 7, 1);
        int two = x.submit(1, 111, 7, 1);
        int three = x.submit(1, 112, 7, 1);
        int same = x.submit(1, 110, 7, 5);
        int goes = x.submit(2, 110, 7, 1);
        int b95 = x.block(0, b, one, -1, -1);
        Check.due("95", x.sum(b95, 19), 95);
        Check.due("the 97th in one block", sound(x, b95, two, three), 0);
        int b96 = x.block(0, b95, two, -1, -1);
        Check.due("the 96th", x.of(b96, 3), 1);
        Check.due("96", x.sum(b96, 19), 96);
        Check.due("the 97th", sound(x, b96, three, NIL), 0);
        int more = x.block(0, b96, same, -1, -1);
        Check.due("one that is there needs no room", x.of(more, 3), 1);
        Check.due("it has more", x.account(more, 110, 8), 6);
        Check.due("one goes, one comes", sound(x, b96, goes, three), 1);
        Check.due("96 again", x.sum(x.count(2) - 1, 19), 96);
        Check.due("not the other way round", sound(x, b96, three, goes), 0);
        Check.due("sum", x.sum(more, 20), 201600);
    }

    private static void unbondOfAllThatIsThere() {
        Check.sentence("2 unbonds: the BOND of a with NODE b has at least v, which goes from it (it goes, if nothing is left)");
        Chain x = maker();
        int all = x.submit(2, 15, 15, 100);
        int more = x.submit(2, 15, 15, 101);
        int most = x.submit(2, 15, 15, 99);
        int one = x.submit(2, 15, 15, 1);
        int elsewhere = x.submit(2, 15, 14, 1);
        int nobody = x.submit(2, 16, 15, 1);
        int again = x.submit(1, 15, 15, 3);
        Check.due("one more than there is", sound(x, 0, more, NIL), 0);
        Check.due("no such bond", sound(x, 0, elsewhere, NIL), 0);
        Check.due("no such bond", sound(x, 0, nobody, NIL), 0);
        int rest = x.block(0, 0, most, -1, -1);
        Check.due("one is left", x.account(rest, 15, 16), 1);
        Check.due("the bond stays", x.sum(rest, 19), 16);
        Check.due("power of 1", x.sum(rest, 15), 1);
        int gone = x.block(0, 0, all, -1, -1);
        Check.due("all", x.of(gone, 3), 1);
        Check.due("the bond goes", x.sum(gone, 19), 15);
        Check.due("no power", x.sum(gone, 15), 0);
        Check.due("nothing is left for 1", sound(x, gone, one, NIL), 0);
        Check.due("the last one", sound(x, rest, one, NIL), 1);
        Check.due("the bond goes", x.sum(x.count(2) - 1, 19), 15);
        int back = x.block(0, gone, again, -1, -1);
        Check.due("it comes again", x.sum(back, 19), 16);
        Check.due("with 3", x.account(back, 15, 16), 3);
    }

    private static void returnIsDueFourHeightsOn() {
        Check.sentence("to a RETURN, the last one, due 4 HEIGHTS on; RETURNS that are due at its HEIGHT or before given back");
        Chain x = maker();
        int t = x.submit(2, 15, 15, 30);
        int b = x.block(0, grow(x, 0, 2), t, -1, -1);
        Check.due("height 3", x.of(b, 0), 3);
        Check.due("one return", x.sum(b, 18), 1);
        Check.due("of 30", x.account(b, 15, 17), 30);
        int six = grow(x, b, 3);
        Check.due("not yet given back at 6", x.account(six, 15, 17), 30);
        Check.due("balance", x.account(six, 15, 0), 999);
        int seven = grow(x, six, 1);
        Check.due("given back at 7", x.account(seven, 15, 17), 0);
        Check.due("gone", x.sum(seven, 18), 0);
        Check.due("balance", x.account(seven, 15, 0), 1029);
        Check.due("only once", x.account(grow(x, seven, 1), 15, 0), 1029);
    }

    /** 31 RETURNS at HEIGHT 4, of BLOCKS that NODES propose, since a FAULTY one puts but two in a BLOCK. */
    private static void roomForThirtyTwoReturns() {
        Check.sentence("a row of RETURNS at most 32; there must be room");
        Chain x = new Chain();
        for (int i = 0; i < 31; i++) {
            x.submit(2, i % 8, i % 8, 1);
        }
        Check.runTo(x, 4, Check.ALL);
        Check.due("twelve at 2, twelve at 3, seven at 4", x.sum(4, 18), 31);
        x.fault(0);
        int one = x.submit(2, 9, 9, 1);
        int two = x.submit(2, 10, 10, 1);
        Check.due("two more", sound(x, 4, one, two), 0);
        int full = x.block(0, 4, one, -1, -1);
        Check.due("the 32nd", x.of(full, 3), 1);
        Check.due("32", x.sum(full, 18), 32);
        Check.due("returns of 9", x.account(full, 9, 17), 1);
        int next = x.block(0, full, two, -1, -1);
        Check.due("twelve are given back first, so there is room", x.of(next, 3), 1);
        Check.due("32 but 12 and 1", x.sum(next, 18), 21);
        Check.due("sum", x.sum(next, 20), 201600);
        Chain y = new Chain();
        for (int i = 0; i < 33; i++) {
            y.submit(2, i % 8, i % 8, 1);
        }
        Check.runTo(y, 5, Check.ALL);
        Check.due("the 33rd is not valid at 4", y.of(4, 4), 8);
        Check.due("nor at 5", y.of(5, 4), 0);
        Check.due("32", y.sum(5, 18), 32);
    }

    private static void returnsComeFirst() {
        Check.sentence("with RETURNS that are due at its HEIGHT or before given back to BALANCES first, and the TRANSACTIONS done");
        Chain x = maker();
        int unbond = x.submit(2, 3, 3, 100);
        int pay = x.submit(0, 3, 4, 998);
        int spend = x.submit(0, 3, 4, 99);
        int b = x.block(0, 0, unbond, pay, -1);
        Check.due("nothing is left", x.account(b, 3, 0), 0);
        int four = grow(x, b, 3);
        Check.due("not yet", sound(x, grow(x, b, 2), spend, NIL), 0);
        int five = x.block(0, four, spend, -1, -1);
        Check.due("what comes back pays", x.of(five, 3), 1);
        Check.due("all of it", x.account(five, 3, 0), 0);
        Check.due("who is paid", x.account(five, 4, 0), 1000 + 998 + 99);
    }

    private static void freeing() {
        Check.sentence("3 frees: NODE b is JAILED, and is no more; POWER is 0 if it is JAILED");
        Chain x = maker();
        x.fault(15);
        int jail = x.submit(4, 20, x.forge(15, 1, 1, 0, 0, -1), x.forge(15, 1, 1, 0, 1, -1));
        int own = x.submit(4, 20, x.forge(0, 1, 1, 0, 0, -1), x.forge(0, 1, 1, 0, 1, -1));
        int free = x.submit(3, 21, 15, 0);
        int again = x.submit(3, 22, 15, 7);
        int freeFirst = x.submit(3, 23, 0, 0);
        Check.due("one that is not jailed", sound(x, 0, free, NIL), 0);
        int b = x.block(0, 0, jail, own, -1);
        Check.due("bits of the first and the last", x.sum(b, 16), 32769);
        Check.due("no power", x.sum(b, 15), 0);
        Check.due("no power", x.sum(b, 0), 0);
        int c = x.block(0, b, free, -1, -1);
        Check.due("one is free", x.sum(c, 16), 1);
        Check.due("power of what is left", x.sum(c, 15), 75);
        Check.due("twice in one block", sound(x, b, free, again), 0);
        Check.due("no more", sound(x, c, again, NIL), 0);
        Check.due("the other", sound(x, c, freeFirst, NIL), 1);
        Check.due("nobody", x.sum(x.count(2) - 1, 16), 0);
    }

    private static int proof(Chain x, int node, int kind, int height, int round) {
        return x.submit(4, 20, x.forge(node, kind, height, round, 0, -1), x.forge(node, kind, height, round, 1, -1));
    }

    private static void proofOfTheBlocksHeight() {
        Check.sentence("that HEIGHT is not above that of the BLOCK");
        Chain x = maker();
        int two = proof(x, 0, 1, 2, 31);
        int one = proof(x, 0, 2, 1, 0);
        Check.due("height 2 in a block of height 1", sound(x, 0, two, NIL), 0);
        Check.due("height 1 in a block of height 1", sound(x, 0, one, NIL), 1);
        Check.due("height 2 in a block of height 2", sound(x, grow(x, 0, 1), two, NIL), 1);
        Check.due("height 1 in a block of height 3", sound(x, grow(x, 0, 2), one, NIL), 1);
    }

    private static void proofAboveTheProvedHeight() {
        Check.sentence("above the NODE's PROVED HEIGHT, which it becomes");
        Chain x = maker();
        x.fault(2);
        int three = proof(x, 2, 1, 3, 0);
        int threeToo = proof(x, 2, 2, 3, 4);
        int two = proof(x, 2, 1, 2, 0);
        int four = proof(x, 2, 1, 4, 0);
        int ofAnother = proof(x, 0, 1, 1, 0);
        int b = x.block(0, grow(x, 0, 2), three, -1, -1);
        Check.due("height 3", x.of(b, 3), 1);
        Check.due("burnt", x.sum(b, 17), 25);
        Check.due("the same height again", sound(x, b, threeToo, NIL), 0);
        Check.due("one below", sound(x, b, two, NIL), 0);
        Check.due("another node has its own", sound(x, b, ofAnother, NIL), 1);
        int c = x.block(0, b, four, -1, -1);
        Check.due("one above, though it is jailed already", x.of(c, 3), 1);
        Check.due("a quarter of 75 more", x.sum(c, 17), 43);
        Check.due("jailed", x.sum(c, 16), 4);
        Check.due("both in one block, in order", sound(x, grow(x, 0, 3), three, four), 1);
        Check.due("not the other way round", sound(x, grow(x, 0, 3), four, three), 0);
    }

    private static void proofAtHeight120() {
        Check.sentence("that HEIGHT is not above that of the BLOCK (120)");
        Chain x = maker();
        int t = proof(x, 0, 2, 120, 31);
        int b118 = grow(x, 0, 118);
        Check.due("height 119", sound(x, b118, t, NIL), 0);
        int b119 = grow(x, b118, 1);
        Check.due("height 120", sound(x, b119, t, NIL), 1);
        int b120 = grow(x, b119, 1);
        Check.due("height 121", sound(x, b120, t, NIL), 1);
    }

    private static void proofKinds() {
        Check.sentence("MESSAGES b and v are votes of one KIND, NODE, HEIGHT and ROUND for different BLOCKS (or one for none)");
        Chain x = maker();
        x.fault(2);
        int parent = grow(x, 0, 3);
        int one = x.forge(2, 1, 2, 1, 1, -1);
        int[] proofs = {x.forge(2, 1, 2, 1, 0, -1), x.forge(2, 1, 2, 1, NIL, -1)};
        int[] none = {one, x.forge(2, 1, 2, 1, 1, -1), x.forge(2, 2, 2, 1, 0, -1), x.forge(0, 1, 2, 1, 0, -1),
            x.forge(2, 1, 3, 1, 0, -1), x.forge(2, 1, 2, 2, 0, -1), x.forge(2, 0, 2, 1, 0, -1), 0};
        for (int m : proofs) {
            Check.due("proof", sound(x, parent, x.submit(4, 9, one, m), NIL), 1);
            Check.due("the other way round", sound(x, parent, x.submit(4, 9, m, one), NIL), 1);
        }
        for (int m : none) {
            Check.due("no proof by message " + m, sound(x, parent, x.submit(4, 9, one, m), NIL), 0);
            Check.due("the other way round", sound(x, parent, x.submit(4, 9, m, one), NIL), 0);
        }
        int nil = x.forge(2, 1, 2, 5, NIL, -1);
        Check.due("both for none", sound(x, parent, x.submit(4, 9, nil, x.forge(2, 1, 2, 5, NIL, -1)), NIL), 0);
        int proposal = x.forge(2, 0, 2, 5, 0, -1);
        Check.due("proposals", sound(x, parent, x.submit(4, 9, proposal, x.forge(2, 0, 2, 5, 1, -1)), NIL), 0);
        Check.due("precommits", sound(x, parent, proof(x, 2, 2, 2, 5), NIL), 1);
        Check.due("of two honest nodes", sound(x, parent, x.submit(4, 9, 0, 1), NIL), 0);
    }

    private static void quarters() {
        Check.sentence("of each BOND with the NODE a quarter (without remainder, rounded down) goes to BURNT");
        int[] bonds = {1, 3, 4, 5, 7, 8, 11, 12};
        int[] left = {1, 3, 3, 4, 6, 6, 9, 9};
        Chain x = maker();
        int b = 0;
        for (int i = 0; i < bonds.length; i += 2) {
            b = x.block(0, b, x.submit(1, 100 + i, 0, bonds[i]), x.submit(1, 101 + i, 0, bonds[i + 1]), -1);
        }
        b = x.block(0, b, proof(x, 0, 1, 1, 0), -1, -1);
        for (int i = 0; i < bonds.length; i++) {
            Check.due("of a bond of " + bonds[i], x.account(b, 100 + i, 1), left[i]);
        }
        Check.due("of 100", x.account(b, 0, 1), 75);
        Check.due("burnt 25, 1, 1, 1, 2, 2 and 3", x.sum(b, 17), 35);
        Check.due("bonds", x.sum(b, 19), 24);
        Check.due("sum", x.sum(b, 20), 201600);
    }

    private static void bondsOfOthers() {
        Check.sentence("of each BOND with the NODE (no other)");
        Chain x = maker();
        int own = x.submit(1, 0, 7, 40);
        int away = x.submit(2, 0, 0, 100);
        int b = x.block(0, 0, own, away, -1);
        b = x.block(0, b, proof(x, 0, 1, 1, 0), -1, -1);
        Check.due("it has no bond, and is proved all the same", x.of(b, 3), 1);
        Check.due("nothing is burnt", x.sum(b, 17), 0);
        Check.due("its account's bond with another", x.account(b, 0, 8), 40);
        Check.due("its account's return", x.account(b, 0, 17), 100);
        Check.due("jailed", x.sum(b, 16), 1);
    }

    private static void notValidDoesNothing() {
        Check.sentence("if one thing is not as said it is not VALID");
        Chain x = new Chain();
        x.submit(0, 30, 31, 1000);
        x.submit(1, 32, 5, 1000);
        x.submit(2, 33, 3, 1);
        x.submit(3, 34, 3, 1);
        x.submit(4, 35, 0, 1);
        Check.runTo(x, 2, Check.ALL);
        Check.due("none in the block", x.of(2, 4), 0);
        for (int a = 30; a <= 35; a++) {
            Check.due("no fee of " + a, x.account(2, a, 0), 1000);
        }
        Check.due("no fee for the proposer", x.account(2, 2, 0), 1000);
        Check.due("bonds", x.sum(2, 19), 16);
        Check.due("returns", x.sum(2, 18), 0);
        Check.due("jailed", x.sum(2, 16), 0);
    }

    private static void order() {
        Check.sentence("its TRANSACTIONS, in order, are VALID");
        Chain x = maker();
        int pay = x.submit(0, 30, 31, 999);
        int use = x.submit(0, 31, 32, 1500);
        Check.due("what was paid is there", sound(x, 0, pay, use), 1);
        Check.due("not yet", sound(x, 0, use, pay), 0);
        Check.due("all of a block or nothing", sound(x, 0, pay, x.submit(2, 90, 1, 1)), 0);
    }

    private static void twelveInABlock() {
        Check.sentence("its TRANSACTIONS the first ones (by number, at most 12) that are VALID in order and not in the CHAIN of LAST");
        for (int many = 11; many <= 13; many++) {
            Chain x = new Chain();
            for (int i = 0; i < many; i++) {
                x.submit(0, 30 + i, 20, 1);
            }
            Check.runTo(x, 3, Check.ALL);
            Check.due("of " + many, x.of(2, 4), many < 12 ? many : 12);
            Check.due("the rest", x.of(3, 4), many == 13 ? 1 : 0);
            Check.due("the first", x.of(2, 5), 0);
            Check.due("the eleventh", x.of(2, 15), 10);
            Check.due("the twelfth", x.of(2, 16), many == 11 ? -1 : 11);
            Check.due("the thirteenth", x.of(3, 5), many == 13 ? 12 : -1);
            Check.due("sum", x.sum(3, 20), 201600);
        }
        Chain x = new Chain();
        x.submit(0, 30, 20, 1000);
        for (int i = 0; i < 12; i++) {
            x.submit(0, 31 + i, 30, 1);
        }
        x.submit(0, 60, 20, 1);
        Check.runTo(x, 3, Check.ALL);
        Check.due("one that is not yet valid takes no room", x.of(2, 16), 12);
        Check.due("it stands first when it is", x.of(3, 5), 0);
        Check.due("then the last one", x.of(3, 6), 13);
    }

    private static void noMoreBondsAreProposed() {
        Check.sentence("the first ones that are VALID in order (96 BONDS are there)");
        Chain x = new Chain();
        for (int i = 0; i < 82; i++) {
            x.submit(1, 20 + i, i % 16, 1);
        }
        x.submit(0, 150, 151, 1);
        Check.runTo(x, 9, Check.ALL);
        Check.due("12 at each of the heights 2 to 7", x.sum(7, 19), 16 + 72);
        Check.due("96 at height 8", x.sum(8, 19), 96);
        Check.due("eight, and the payment behind them", x.of(8, 4), 9);
        Check.due("the 80th", x.of(8, 12), 79);
        Check.due("the payment", x.of(8, 13), 82);
        Check.due("no more", x.of(9, 4), 0);
    }

    /** NODE 2, the PROPOSER of HEIGHT 2, is led there by BLOCK 1, which is empty, or by BLOCK 2. */
    private static void notInTheChainOfLast() {
        Check.sentence("that are VALID in order and not in the CHAIN of LAST");
        for (int last = 1; last <= 2; last++) {
            Chain x = new Chain();
            Check.faultAll(x, 5, 15);
            int t = x.submit(0, 20, 21, 1);
            int u = x.submit(0, 22, 21, 1);
            Check.due("a block with one of them", x.block(5, 0, t, -1, -1), 2);
            for (int n = 5; n <= 15; n++) {
                x.forge(n, 2, 1, 0, last, -1);
            }
            Check.due("height 2", x.sync(2, last), 2);
            Check.due("it proposes", x.of(3, 2), 2);
            Check.due("what is not in its chain", x.of(3, 4), last == 1 ? 2 : 1);
            Check.due("the first", x.of(3, 5), last == 1 ? t : u);
            Check.due("the second", x.of(3, 6), last == 1 ? u : -1);
            Check.due("both are paid", x.account(3, 21, 0), 1002);
        }
    }

    private static void soundParents() {
        Check.sentence("A BLOCK is SOUND if its PARENT is (0 is)");
        Chain x = maker();
        Check.due("block 0", x.of(0, 3), 1);
        Check.due("its child", sound(x, 0, NIL, NIL), 1);
        int bad = x.block(0, 0, -1, -1, 1);
        int child = x.block(0, bad, -1, -1, -1);
        int grandchild = x.block(0, child, -1, -1, 65535);
        Check.due("a claim that is wrong", x.of(bad, 3), 0);
        Check.due("its child", x.of(child, 3), 0);
        Check.due("its child's child", x.of(grandchild, 3), 0);
        Check.due("height", x.of(grandchild, 0), 3);
        Check.due("the parent's claim, if it has no state: NODE 0", x.of(child, 17), 100);
        Check.due("NODE 1", x.of(child, 18), 0);
        Check.due("its claim is its own all the same", x.of(grandchild, 32), 100);
        for (int b : new int[] {bad, child, grandchild}) {
            Check.due("no state", () -> x.account(b, 0, 0), Check.ISE);
            Check.due("no state", () -> x.sum(b, 0), Check.ISE);
        }
    }

    private static void soundClaims() {
        Check.sentence("its CLAIM is the POWERS in the STATE of its PARENT");
        Chain x = maker();
        Check.due("all", x.of(x.block(0, 0, -1, -1, 65535), 3), 1);
        Check.due("none", x.of(x.block(0, 0, -1, -1, 0), 3), 0);
        for (int n = 0; n < 16; n++) {
            Check.due("all but " + n, x.of(x.block(0, 0, -1, -1, 65535 ^ 1 << n), 3), 0);
        }
        int gone = x.block(0, 0, x.submit(2, 15, 15, 100), -1, -1);
        Check.due("NODE 15 has none", x.of(x.block(0, gone, -1, -1, 32767), 3), 1);
        Check.due("not by the state of block 0", x.of(x.block(0, gone, -1, -1, 65535), 3), 0);
        int less = x.block(0, 0, x.submit(2, 15, 15, 1), -1, -1);
        Check.due("99 is not 100", x.of(x.block(0, less, -1, -1, 65535), 3), 0);
        Check.due("the right claim", x.of(x.block(0, less, -1, -1, -1), 32), 99);
        int jailed = x.block(0, 0, proof(x, 3, 0), -1, -1);
        Check.due("one that is jailed has none", x.of(x.block(0, jailed, -1, -1, 65535 ^ 8), 3), 1);
    }

    private static int proof(Chain x, int node, int round) {
        x.fault(node);
        return proof(x, node, 1, 1, round);
    }

    private static void standsTwice() {
        Check.sentence("none stands twice in it or in a BLOCK above it");
        Chain x = maker();
        int t = x.submit(0, 20, 21, 1);
        int u = x.submit(0, 20, 21, 1);
        Check.due("twice in it", sound(x, 0, t, t), 0);
        int b = x.block(0, 0, t, -1, -1);
        Check.due("in its parent", sound(x, b, t, NIL), 0);
        Check.due("in its parent, as the second", sound(x, b, u, t), 0);
        int far = grow(x, b, 5);
        Check.due("far above", sound(x, far, NIL, t), 0);
        Check.due("one like it", sound(x, far, u, NIL), 1);
        Check.due("in a block that is in another chain", sound(x, 0, t, u), 1);
        Check.due("in a block that is in another chain", sound(x, 1, t, u), 1);
    }

    private static void nothingGoesIn() {
        Check.sentence("TRANSACTIONS one, two (-1: none)");
        Chain x = maker();
        int t = x.submit(0, 20, 21, 1);
        int u = x.submit(0, 22, 21, 1);
        int none = x.block(0, 0, -1, -1, -1);
        int first = x.block(0, 0, t, -1, -1);
        int second = x.block(0, 0, -1, u, -1);
        int both = x.block(0, 0, u, t, -1);
        int[][] rows = {{0, -1, -1}, {1, t, -1}, {1, u, -1}, {2, u, t}};
        int[] blocks = {none, first, second, both};
        for (int i = 0; i < 4; i++) {
            for (int j = 0; j < 3; j++) {
                Check.due("of(" + blocks[i] + ", " + (4 + j) + ")", x.of(blocks[i], 4 + j), rows[i][j]);
            }
            Check.due("sound", x.of(blocks[i], 3), 1);
        }
    }
}
