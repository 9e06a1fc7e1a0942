/** Promises 2, 8, 14, 15, 16: what TRANSACTIONS do, when they are VALID, and which BLOCKS are SOUND. */
public final class LedgerTest {
    public static void main(String[] args) {
        numbers();
        payments();
        ownFee();
        bonds();
        unbonds();
        proofs();
        proofsThatAreNone();
        proposed();
        twice();
        claims();
        roomForBonds();
        roomForReturns();
        chainsApart();
        lastCoin();
        punishedBonds();
        returnsInOrder();
        Check.end();
    }

    /** An object with NODE 0 FAULTY, which makes the BLOCKS (the first of them is number 2). */
    private static Chain maker() {
        Chain x = new Chain();
        x.fault(0);
        return x;
    }

    private static int sound(Chain x, int parent, int one, int two) {
        return x.of(x.block(0, parent, one, two, -1), 3);
    }

    private static void numbers() {
        Chain x = new Chain();
        Check.due("first submit", x.submit(0, 199, 199, 1000000), 0);
        Check.due("second submit", x.submit(1, 199, 15, 1), 1);
        Check.due("third submit", x.submit(2, 0, 0, 1000000), 2);
        Check.due("a freeing without amount", x.submit(3, 0, 15, Integer.MIN_VALUE), 3);
        Check.due("a proof", x.submit(4, 0, 1, 0), 4);
        Check.due("count", x.count(0), 5);
    }

    private static void payments() {
        Chain x = maker();
        x.submit(0, 20, 21, 999);
        x.submit(0, 22, 21, 1000);
        x.submit(0, 20, 23, 1);
        x.submit(0, 24, 24, 999);
        Check.due("a payment of all but the fee", sound(x, 0, 0, -1), 1);
        Check.due("who pays", x.account(2, 20, 0), 0);
        Check.due("who is paid", x.account(2, 21, 0), 1999);
        Check.due("the proposer has the fee", x.account(2, 0, 0), 1001);
        Check.due("sum", x.sum(2, 20), 201600);
        Check.due("without the fee it is too much", sound(x, 0, 1, -1), 0);
        Check.due("no fee left", sound(x, 2, 2, -1), 0);
        Check.due("one after the other", sound(x, 0, 0, 2), 0);
        Check.due("to itself", sound(x, 0, 3, -1), 1);
        Check.due("to itself", x.account(6, 24, 0), 999);
    }

    /** The fee comes to the PROPOSER before the amount is looked at. */
    private static void ownFee() {
        Chain x = maker();
        x.submit(0, 0, 5, 1000);
        x.submit(0, 0, 5, 1);
        x.submit(1, 0, 7, 1000);
        Check.due("the proposer pays all that it has", sound(x, 0, 0, -1), 1);
        Check.due("nothing is left", x.account(2, 0, 0), 0);
        Check.due("no fee, though it would come back", sound(x, 2, 1, -1), 0);
        Check.due("the proposer bonds all that it has", sound(x, 0, 2, -1), 1);
        Check.due("power", x.sum(4, 7), 1100);
    }

    private static void bonds() {
        Chain x = maker();
        x.submit(1, 3, 2, 500);
        x.submit(1, 3, 2, 499);
        x.submit(1, 3, 2, 498);
        Check.due("a new bond", sound(x, 0, 0, -1), 1);
        Check.due("the bond", x.account(2, 3, 3), 500);
        Check.due("the old bond", x.account(2, 3, 4), 100);
        Check.due("the balance", x.account(2, 3, 0), 499);
        Check.due("bonds", x.sum(2, 19), 17);
        Check.due("power", x.sum(2, 2), 600);
        Check.due("not all of it is there behind the fee", sound(x, 2, 1, -1), 0);
        Check.due("all of it is there", sound(x, 2, 2, -1), 1);
        Check.due("the same bond has more", x.account(4, 3, 3), 998);
        Check.due("bonds", x.sum(4, 19), 17);
        Check.due("sum", x.sum(4, 20), 201600);
    }

    private static void unbonds() {
        Chain x = maker();
        x.submit(2, 1, 1, 40);
        x.submit(2, 1, 1, 61);
        x.submit(2, 1, 1, 60);
        x.submit(2, 1, 2, 1);
        Check.due("a part", sound(x, 0, 0, -1), 1);
        Check.due("bond", x.account(2, 1, 2), 60);
        Check.due("returns of the account", x.account(2, 1, 17), 40);
        Check.due("balance but for the fee", x.account(2, 1, 0), 999);
        Check.due("more than there is", sound(x, 2, 1, -1), 0);
        Check.due("a bond with another node", sound(x, 2, 3, -1), 0);
        Check.due("the rest", sound(x, 2, 2, -1), 1);
        Check.due("the bond is gone", x.sum(5, 19), 15);
        Check.due("power", x.sum(5, 1), 0);
        Check.due("returns", x.sum(5, 18), 2);
        int three = x.block(0, 5, -1, -1, -1);
        int four = x.block(0, three, -1, -1, -1);
        int five = x.block(0, four, -1, -1, -1);
        int six = x.block(0, five, -1, -1, -1);
        Check.due("height", x.of(five, 0), 5);
        Check.due("not yet due at 4", x.account(four, 1, 17), 100);
        Check.due("due at 5", x.account(five, 1, 17), 60);
        Check.due("given back at 5", x.account(five, 1, 0), 1038);
        Check.due("due at 6", x.sum(six, 18), 0);
        Check.due("given back at 6", x.account(six, 1, 0), 1098);
        Check.due("sum", x.sum(six, 20), 201600);
    }

    private static void proofs() {
        Chain x = maker();
        x.fault(2);
        int a = x.forge(2, 1, 1, 0, 1, -1);
        int b = x.forge(2, 1, 1, 0, -1, -1);
        int c = x.forge(2, 2, 2, 3, 1, -1);
        int d = x.forge(2, 2, 2, 3, 0, -1);
        x.submit(1, 30, 2, 7);
        x.submit(4, 31, a, b);
        x.submit(4, 31, c, d);
        x.submit(3, 32, 2, 0);
        x.submit(1, 33, 2, 3);
        Check.due("bond of 7, then proof", sound(x, 0, 0, 1), 1);
        Check.due("burnt 25 and 1", x.sum(2, 17), 26);
        Check.due("bond of 2 with itself", x.account(2, 2, 3), 75);
        Check.due("bond of 30", x.account(2, 30, 3), 6);
        Check.due("jailed", x.sum(2, 16), 4);
        Check.due("no power", x.sum(2, 2), 0);
        Check.due("sum", x.sum(2, 20), 201600);
        Check.due("height 2 is above the block's", sound(x, 0, 2, -1), 0);
        Check.due("height 2 is not", sound(x, 2, 2, -1), 1);
        Check.due("burnt 18 and 1 more", x.sum(4, 17), 45);
        Check.due("the proved height is above now", sound(x, 4, 1, -1), 0);
        Check.due("freed, and bonded", sound(x, 4, 3, 4), 1);
        Check.due("free", x.sum(6, 16), 0);
        Check.due("power again", x.sum(6, 2), 57 + 5 + 3);
        Check.due("one that is not jailed", sound(x, 0, 3, -1), 0);
        x.submit(4, 31, b, a);
        Check.due("the same height twice", sound(x, 2, 5, -1), 0);
        Check.due("the other way round", sound(x, 0, 5, -1), 1);
    }

    private static void proofsThatAreNone() {
        Chain x = maker();
        x.fault(2);
        x.fault(3);
        int base = x.forge(2, 1, 1, 0, 1, -1);
        int[] others = {base, x.forge(2, 1, 1, 0, 1, -1), x.forge(3, 1, 1, 0, 0, -1), x.forge(2, 2, 1, 0, 0, -1),
            x.forge(2, 1, 2, 0, 0, -1), x.forge(2, 1, 1, 1, 0, -1)};
        for (int o : others) {
            int t = x.submit(4, 9, base, o);
            Check.due("no proof by message " + o, sound(x, 1, t, -1), 0);
        }
        int p = x.forge(2, 0, 1, 0, 1, -1);
        int q = x.forge(2, 0, 1, 0, 0, -1);
        Check.due("proposals are no votes", sound(x, 0, x.submit(4, 9, p, q), -1), 0);
    }

    /** A proposed BLOCK has the first 12 that are VALID in order. */
    private static void proposed() {
        Chain x = new Chain();
        x.submit(0, 50, 51, 999);
        x.submit(0, 50, 51, 1);
        x.submit(2, 51, 3, 5);
        x.submit(1, 51, 3, 5);
        x.submit(2, 51, 3, 5);
        for (int i = 0; i < 12; i++) {
            x.submit(0, 60 + i, 51, 1);
        }
        Check.runTo(x, 4, Check.ALL);
        int[] first = {0, 3, 4, 5, 6, 7, 8, 9, 10, 11, 12, 13};
        int[] second = {14, 15, 16};
        Check.due("transactions of block 2", x.of(2, 4), 12);
        Check.due("transactions of block 3", x.of(3, 4), 3);
        Check.due("transactions of block 4", x.of(4, 4), 0);
        for (int i = 0; i < 12; i++) {
            Check.due("block 2, transaction " + i, x.of(2, 5 + i), first[i]);
            Check.due("block 3, transaction " + i, x.of(3, 5 + i), i < 3 ? second[i] : -1);
        }
        Check.due("proposer of block 2: 262 of 1600", x.of(2, 2), 2);
        Check.due("its fees", x.account(2, 2, 0), 1012);
    }

    private static void twice() {
        Chain x = maker();
        x.submit(0, 20, 21, 1);
        x.submit(0, 20, 21, 1);
        Check.due("twice in one block", sound(x, 0, 0, 0), 0);
        Check.due("both are in it all the same", x.of(2, 4), 2);
        Check.due("first", x.of(2, 5), 0);
        Check.due("second", x.of(2, 6), 0);
        Check.due("once", sound(x, 0, -1, 0), 1);
        Check.due("one transaction", x.of(3, 4), 1);
        Check.due("it is the first", x.of(3, 5), 0);
        Check.due("no second", x.of(3, 6), -1);
        int child = x.block(0, 3, -1, -1, -1);
        Check.due("in a block far above", sound(x, child, 1, 0), 0);
        Check.due("another like it", sound(x, child, 1, -1), 1);
        Check.due("in another chain", sound(x, 0, 0, 1), 1);
        Check.due("two", x.account(7, 21, 0), 1002);
    }

    private static void claims() {
        Chain x = maker();
        int bad = x.block(0, 0, -1, -1, 0b1000000000000011);
        Check.due("a claim that is wrong", x.of(bad, 3), 0);
        for (int n = 0; n < 16; n++) {
            Check.due("claim of " + n, x.of(bad, 17 + n), n < 2 || n == 15 ? 100 : 0);
        }
        Check.due("a claim that is wrong of NODE 0 alone", x.of(x.block(0, 0, -1, -1, 65534), 3), 0);
        Check.due("a claim that is wrong of NODE 15 alone", x.of(x.block(0, 0, -1, -1, 32767), 3), 0);
        Check.due("a claim that is right by bits", x.of(x.block(0, 0, -1, -1, 65535), 3), 1);
        int child = x.block(0, bad, -1, -1, -1);
        Check.due("child of one that is not sound", x.of(child, 3), 0);
        Check.due("its height", x.of(child, 0), 2);
        Check.due("it has its parent's claim", x.of(child, 17 + 15), 100);
        Check.due("it has its parent's claim", x.of(child, 17 + 14), 0);
        Check.due("proposer", x.of(child, 2), 0);
        Check.due("parent", x.of(child, 1), bad);
        Check.due("no claim at all", x.of(x.block(0, 0, -1, -1, 0), 17), 0);
        Check.due("no state", () -> x.account(child, 0, 0), Check.ISE);
        int t = x.submit(1, 30, 4, 50);
        int more = x.block(0, 0, t, -1, -1);
        Check.due("claim is of the parent's state", x.of(more, 21), 100);
        Check.due("power in its own", x.sum(more, 4), 150);
        Check.due("hundreds are wrong behind it", x.of(x.block(0, more, -1, -1, 65535), 3), 0);
        Check.due("the right claim is not", x.of(x.block(0, more, -1, -1, -1), 21), 150);
    }

    private static void roomForBonds() {
        Chain x = maker();
        int b = 0;
        for (int i = 0; i < 80; i += 2) {
            x.submit(1, 20 + i, 4, 1);
            x.submit(1, 21 + i, 4, 1);
            b = x.block(0, b, i, i + 1, -1);
        }
        Check.due("96 bonds", x.sum(b, 19), 96);
        int more = x.submit(1, 150, 4, 1);
        int same = x.submit(1, 99, 4, 1);
        int free = x.submit(2, 20, 4, 1);
        Check.due("no room", sound(x, b, more, -1), 0);
        Check.due("no new one is needed", sound(x, b, same, -1), 1);
        Check.due("room", sound(x, b, free, more), 1);
        Check.due("96 bonds again", x.sum(x.count(2) - 1, 19), 96);
    }

    private static void roomForReturns() {
        Chain x = new Chain();
        for (int i = 0; i < 40; i++) {
            x.submit(2, i % 8, i % 8, 1);
        }
        Check.runTo(x, 7, Check.ALL);
        Check.due("12 in block 2", x.sum(2, 18), 12);
        Check.due("24 in block 3", x.sum(3, 18), 24);
        Check.due("32 in block 4", x.sum(4, 18), 32);
        Check.due("only 8 were valid", x.of(4, 4), 8);
        Check.due("none in block 5", x.of(5, 4), 0);
        Check.due("12 given back, 8 more in block 6", x.of(6, 4), 8);
        Check.due("28 in block 6", x.sum(6, 18), 28);
        Check.due("sum", x.sum(7, 20), 201600);
    }

    /** What one CHAIN does is nothing to another. */
    private static void chainsApart() {
        Chain x = maker();
        x.submit(2, 1, 1, 40);
        x.submit(2, 2, 2, 50);
        x.submit(1, 3, 7, 9);
        int a = x.block(0, 0, 0, -1, -1);
        int b = x.block(0, 0, -1, -1, -1);
        b = x.block(0, b, -1, -1, -1);
        b = x.block(0, b, 1, 2, -1);
        for (int height = 2; height <= 4; height++) {
            a = x.block(0, a, -1, -1, -1);
        }
        Check.due("height 4", x.account(a, 1, 17), 40);
        a = x.block(0, a, -1, -1, -1);
        Check.due("due at 5", x.account(a, 1, 17), 0);
        Check.due("nothing of the other chain", x.account(a, 2, 17), 0);
        Check.due("bonds", x.sum(a, 19), 16);
        for (int height = 4; height <= 6; height++) {
            b = x.block(0, b, -1, -1, -1);
        }
        Check.due("height 6", x.account(b, 2, 17), 50);
        Check.due("bonds", x.sum(b, 19), 17);
        b = x.block(0, b, -1, -1, -1);
        Check.due("due at 7", x.account(b, 2, 17), 0);
        Check.due("sum", x.sum(b, 20), 201600);
    }

    private static void lastCoin() {
        Chain x = maker();
        x.submit(0, 3, 20, 998);
        x.submit(2, 3, 3, 100);
        x.submit(2, 3, 3, 1);
        int b = x.block(0, 0, 0, -1, -1);
        Check.due("one is left", x.account(b, 3, 0), 1);
        int c = x.block(0, b, 1, -1, -1);
        Check.due("enough for the fee", x.of(c, 3), 1);
        Check.due("nothing is left", x.account(c, 3, 0), 0);
        Check.due("no fee", sound(x, c, 2, -1), 0);
        Chain y = maker();
        y.submit(2, 15, 15, 100);
        y.submit(2, 15, 15, 1);
        Check.due("a bond that is gone", sound(y, 0, 0, 1), 0);
    }

    private static void punishedBonds() {
        Chain x = maker();
        x.fault(15);
        int a = x.forge(0, 1, 1, 0, 1, -1);
        int b = x.forge(0, 1, 1, 0, -1, -1);
        int c = x.forge(15, 2, 1, 31, 0, -1);
        int d = x.forge(15, 2, 1, 31, 1, -1);
        x.submit(4, 20, a, b);
        x.submit(2, 15, 15, 100);
        x.submit(4, 20, c, d);
        int first = x.block(0, 0, 0, -1, -1);
        Check.due("NODE 0", x.sum(first, 17), 25);
        Check.due("jailed", x.sum(first, 16), 1);
        Check.due("its bond", x.account(first, 0, 1), 75);
        int second = x.block(0, first, 1, 2, -1);
        Check.due("without a bond nothing burns", x.sum(second, 17), 25);
        Check.due("returns do not", x.account(second, 15, 17), 100);
        Check.due("jailed all the same", x.sum(second, 16), 32769);
        Check.due("sum", x.sum(second, 20), 201600);
        x.submit(2, 3, 3, 100);
        int other = x.block(0, 0, 3, 2, -1);
        Check.due("each bond but once, though another is gone", x.sum(other, 17), 25);
        Check.due("sum", x.sum(other, 20), 201600);
    }

    private static void returnsInOrder() {
        Chain x = maker();
        x.submit(2, 1, 1, 10);
        x.submit(2, 2, 2, 20);
        x.submit(2, 3, 3, 30);
        int b = x.block(0, 0, 0, -1, -1);
        b = x.block(0, b, -1, -1, -1);
        b = x.block(0, b, 1, 2, -1);
        b = x.block(0, b, -1, -1, -1);
        b = x.block(0, b, -1, -1, -1);
        Check.due("given back at 5", x.account(b, 1, 17), 0);
        Check.due("two are left", x.sum(b, 18), 2);
        b = x.block(0, b, -1, -1, -1);
        Check.due("not due at 6", x.account(b, 2, 17), 20);
        Check.due("not due at 6", x.account(b, 3, 17), 30);
        b = x.block(0, b, -1, -1, -1);
        Check.due("given back at 7", x.account(b, 2, 0), 1019);
        Check.due("given back at 7", x.account(b, 3, 0), 1029);
        Check.due("none is left", x.sum(b, 18), 0);
    }
}
