/** Promise 17. */
public final class ClientTest {
    public static void main(String[] args) {
        steps();
        halves();
        claimOfTheBlock();
        sameNodes();
        neighbours();
        notSound();
        weakHalf();
        otherChain();
        justThirds();
        Check.end();
    }

    private static Chain maker() {
        Chain x = new Chain();
        Check.faultAll(x, 0, 10);
        return x;
    }

    /** Empty BLOCKS on top of b: the last of them. */
    private static int grow(Chain x, int b, int many) {
        int tip = b;
        for (int i = 0; i < many; i++) {
            tip = x.block(0, tip, -1, -1, -1);
        }
        return tip;
    }

    private static void certify(Chain x, int b, int from, int to) {
        for (int n = from; n <= to; n++) {
            x.forge(n, 2, x.of(b, 0), 0, b, -1);
        }
    }

    private static void steps() {
        Chain x = maker();
        int tip = grow(x, 0, 41);
        int forty = tip - 1;
        Check.due("block 0", x.follow(0), -1);
        Check.due("no certificate", x.follow(2), -1);
        certify(x, forty, 1, 10);
        Check.due("ten have not 2 thirds", x.follow(forty), -1);
        certify(x, forty, 0, 0);
        Check.due("40 above", x.follow(forty), 1);
        Check.due("trusted", x.count(4), forty);
        Check.due("the same again", x.follow(forty), -1);
        Check.due("one below", x.follow(5), -1);
        certify(x, tip, 0, 10);
        Check.due("one above", x.follow(tip), 1);
        Check.due("trusted", x.count(4), tip);
    }

    /** HEIGHT 100: 100, 50, 25, 50, 100, 75, 100. */
    private static void halves() {
        Chain x = maker();
        grow(x, 0, 100);
        int base = 1;
        for (int h : new int[] {100, 50, 25, 75}) {
            certify(x, base + h, 0, 10);
        }
        Check.due("seven looks", x.follow(base + 100), 7);
        Check.due("trusted", x.count(4), base + 100);
        Chain y = maker();
        grow(y, 0, 100);
        for (int h : new int[] {100, 50, 25}) {
            certify(y, base + h, 0, 10);
        }
        Check.due("75 has no certificate: 100, 50, 25, 50, 100, 75", y.follow(base + 100), -6);
        Check.due("what it trusts by then stays", y.count(4), base + 50);
        Chain z = maker();
        grow(z, 0, 100);
        certify(z, base + 100, 0, 10);
        Check.due("no way", z.follow(base + 100), -2);
        Check.due("nothing", z.count(4), 0);
        Chain u = maker();
        grow(u, 0, 41);
        certify(u, base + 41, 0, 10);
        certify(u, base + 20, 0, 10);
        Check.due("41 above: half of 41 is 20", u.follow(base + 41), 3);
    }

    /** A BLOCK whose CLAIM is of few NODES needs few precommits, but a third of the POWERS that are trusted. */
    private static void claimOfTheBlock() {
        Chain x = maker();
        int one = grow(x, 0, 1);
        int two = x.block(0, one, -1, -1, 0b111111);
        certify(x, two, 0, 4);
        Check.due("five of six, but not a third: block 1 has no certificate", x.follow(two), -2);
        certify(x, two, 6, 10);
        Check.due("a third with others: 10 of 16", x.follow(two), 1);
        Chain y = maker();
        one = grow(y, 0, 1);
        two = y.block(0, one, -1, -1, 0b111111);
        certify(y, two, 0, 3);
        certify(y, two, 6, 10);
        Check.due("four of six are just 2 thirds", y.follow(two), -1);
        certify(y, two, 5, 5);
        Check.due("five of six", y.follow(two), 1);
        Check.due("not sound all the same", y.of(y.count(4), 3), 0);
    }

    private static void sameNodes() {
        Chain x = maker();
        int two = x.block(0, grow(x, 0, 1), -1, -1, 0b11);
        x.forge(0, 2, 2, 5, two, -1);
        x.forge(1, 2, 2, 5, two, -1);
        for (int n = 2; n < 9; n++) {
            x.forge(n, 2, 2, 6, two, -1);
        }
        Check.due("not in one round", x.follow(two), -2);
        for (int n = 2; n < 5; n++) {
            x.forge(n, 2, 2, 5, two, -1);
            x.forge(n, 2, 1, 5, two, -1);
            x.forge(n, 1, 2, 5, two, -1);
        }
        x.forge(5, 2, 1, 5, two, -1);
        x.forge(5, 1, 2, 5, two, -1);
        Check.due("five of 16", x.follow(two), -2);
        x.forge(5, 2, 2, 5, two, -1);
        Check.due("six of 16", x.follow(two), 1);
    }

    private static void neighbours() {
        Chain x = maker();
        int wrongClaim = x.block(0, 0, -1, -1, 0b11111111111);
        certify(x, wrongClaim, 0, 10);
        Check.due("claim that is not the powers", x.follow(wrongClaim), -1);
        int one = grow(x, 0, 1);
        int other = grow(x, 0, 1);
        int child = grow(x, other, 1);
        certify(x, one, 0, 10);
        certify(x, child, 0, 10);
        Check.due("one above", x.follow(one), 1);
        Check.due("one above, but not its child", x.follow(child), -1);
        Check.due("trusted", x.count(4), one);
    }

    private static void notSound() {
        Chain x = maker();
        int bad = x.block(0, grow(x, 0, 1), -1, -1, 0b11111111111);
        int child = grow(x, bad, 1);
        int far = grow(x, child, 5);
        certify(x, bad, 0, 10);
        certify(x, child, 0, 10);
        certify(x, far, 0, 10);
        Check.due("two above", x.follow(bad), 1);
        Check.due("nothing follows it", x.follow(child), -1);
        Check.due("nor far: 8, then 5", x.follow(far), -2);
        Check.due("trusted", x.count(4), bad);
    }

    /** Powers change so much that the way must be made in halves within 40 HEIGHTS. */
    private static void weakHalf() {
        Chain x = maker();
        int b = 1;
        for (int i = 0; i < 14; i += 2) {
            x.submit(1, 100 + i, 9, 999);
            x.submit(1, 101 + i, 10, 999);
            b = x.block(0, b, i, i + 1, -1);
        }
        int last = grow(x, b, 1);
        Check.due("height", x.of(last, 0), 9);
        certify(x, last, 9, 10);
        Check.due("9 and 10 have most of the claim, not a third of the first powers", x.follow(last), -2);
        int four = x.of(x.of(x.of(x.of(x.of(last, 1), 1), 1), 1), 1);
        Check.due("height", x.of(four, 0), 4);
        certify(x, four, 0, 10);
        Check.due("9, 4, 9", x.follow(last), 3);
    }

    private static void otherChain() {
        Chain x = maker();
        int one = grow(x, 0, 4);
        int other = grow(x, 1, 7);
        certify(x, one, 0, 10);
        certify(x, other, 0, 10);
        Check.due("4 above", x.follow(one), 1);
        Check.due("8 is in another chain", x.follow(other), 1);
        Check.due("trusted", x.count(4), other);
    }

    private static void justThirds() {
        Chain x = maker();
        x.submit(2, 15, 15, 100);
        int one = x.block(0, 0, 0, -1, -1);
        certify(x, one, 0, 10);
        Check.due("powers of 1500", x.follow(one), 1);
        int three = x.block(0, grow(x, one, 1), -1, -1, 0b11);
        certify(x, three, 0, 4);
        Check.due("just a third of them", x.follow(three), -2);
        certify(x, three, 5, 5);
        Check.due("more than a third", x.follow(three), 1);
    }
}
