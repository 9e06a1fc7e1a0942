/** Terms 4, and promises 17 and 18: each sentence that names an edge of what THE CLIENT trusts, or of a count. */
public final class ClientEdgesTest {
    private static final int PRECOMMIT = 2;

    public static void main(String[] args) {
        oneToForty();
        fortyAndFortyOne();
        ofItsHeight();
        twoThirdsOfTheClaim();
        claimOfNothing();
        aThirdOfThePowers();
        theSameNodes();
        anyRound();
        justOneAbove();
        twoAbove();
        trustedIsNotSound();
        halfOfAnOddSum();
        halfOfTwo();
        noHalfWithoutMost();
        noHalfOfOne();
        halfIsNotTrusted();
        eachTimeCounts();
        stepByStep();
        height120();
        counts();
        pairsThatAreApart();
        offTheClient();
        Check.end();
    }

    /** NODES 0 to 10 are FAULTY; BLOCK h + 1 has HEIGHT h, up to this one, the CLAIMS right. */
    private static Chain grown(int height) {
        Chain x = new Chain();
        Check.faultAll(x, 0, 10);
        for (int h = 1; h <= height; h++) {
            x.block(0, h == 1 ? 0 : h, -1, -1, -1);
        }
        return x;
    }

    private static void certify(Chain x, int b, int from, int to) {
        int height = x.of(b, 0);
        for (int n = from; n <= to; n++) {
            x.forge(n, PRECOMMIT, height, 0, b, -1);
        }
    }

    private static void oneToForty() {
        Check.sentence("HEIGHT b is 1 to 40 above that of the one that it trusts");
        Chain x = grown(3);
        int rival = x.block(0, 2, -1, -1, -1);
        certify(x, 3, 0, 10);
        certify(x, 2, 0, 10);
        certify(x, rival, 0, 10);
        Check.due("block 0 itself", x.follow(0), -1);
        Check.due("2 above", x.follow(3), 1);
        Check.due("as high", x.follow(3), -1);
        Check.due("as high, another", x.follow(rival), -1);
        Check.due("below", x.follow(2), -1);
        Check.due("block 0", x.follow(0), -1);
        certify(x, 4, 0, 10);
        Check.due("1 above", x.follow(4), 1);
        Check.due("trusted", x.count(4), 4);
    }

    private static void fortyAndFortyOne() {
        Check.sentence("HEIGHT b is 1 to 40 above (40, 41)");
        Chain x = grown(41);
        certify(x, 41, 0, 10);
        certify(x, 42, 0, 10);
        Check.due("41 above, half of it without precommits", x.follow(42), -2);
        Check.due("nothing", x.count(4), 0);
        Check.due("40 above", x.follow(41), 1);
        Check.due("trusted", x.count(4), 41);
        Chain y = grown(42);
        certify(y, 2, 0, 10);
        Check.due("1 above", y.follow(2), 1);
        certify(y, 42, 0, 10);
        certify(y, 43, 0, 10);
        Check.due("41 above height 1", y.follow(43), -2);
        Check.due("40 above height 1", y.follow(42), 1);
    }

    private static void ofItsHeight() {
        Check.sentence("precommits that were sent for b (of its HEIGHT)");
        Chain x = grown(2);
        certify(x, 3, 0, 9);
        x.forge(10, PRECOMMIT, 1, 0, 3, -1);
        x.forge(10, PRECOMMIT, 3, 0, 3, -1);
        x.forge(10, PRECOMMIT, 2, 0, 2, -1);
        x.forge(10, PRECOMMIT, 2, 0, -1, -1);
        x.forge(10, 1, 2, 0, 3, -1);
        x.forge(10, 0, 2, 0, 3, -1);
        x.forge(9, PRECOMMIT, 2, 0, 3, -1);
        Check.due("none of these is an eleventh", x.follow(3), -1);
        x.forge(10, PRECOMMIT, 2, 0, 3, -1);
        Check.due("this is", x.follow(3), 1);
    }

    private static void twoThirdsOfTheClaim() {
        Check.sentence("have more than 2 thirds of the CLAIM of b");
        Chain x = grown(1);
        int b = x.block(0, 2, -1, -1, 0b111);
        certify(x, b, 0, 1);
        certify(x, b, 3, 10);
        Check.due("just 2 thirds", x.follow(b), -1);
        certify(x, b, 2, 2);
        Check.due("more", x.follow(b), 1);
    }

    private static void claimOfNothing() {
        Check.sentence("have more than 2 thirds of the CLAIM of b (nothing)");
        Chain x = grown(1);
        int b = x.block(0, 2, -1, -1, 0);
        certify(x, b, 0, 10);
        Check.due("nothing is not more than nothing", x.follow(b), -1);
    }

    private static void aThirdOfThePowers() {
        Check.sentence("more than a third of the POWERS in the STATE of the trusted one");
        Chain x = new Chain();
        Check.faultAll(x, 0, 10);
        int one = x.block(0, 0, x.submit(2, 15, 15, 100), -1, -1);
        certify(x, one, 0, 10);
        Check.due("powers of 1500", x.follow(one), 1);
        int b = x.block(0, x.block(0, one, -1, -1, -1), -1, -1, 1);
        certify(x, b, 0, 4);
        Check.due("just a third", x.follow(b), -2);
        certify(x, b, 4, 4);
        Check.due("one of them again", x.follow(b), -2);
        certify(x, b, 5, 5);
        Check.due("more", x.follow(b), 1);
    }

    private static void theSameNodes() {
        Check.sentence("there is a ROUND in which precommits, by NODES (the same NODES)");
        Chain x = grown(1);
        int b = x.block(0, 2, -1, -1, 0b11);
        for (int n = 0; n <= 10; n++) {
            x.forge(n, PRECOMMIT, 2, n < 2 ? 4 : 5, b, -1);
        }
        Check.due("the claim's in one round, a third in another", x.follow(b), -2);
        for (int n = 2; n <= 5; n++) {
            x.forge(n, PRECOMMIT, 2, 4, b, -1);
        }
        Check.due("both in one", x.follow(b), 1);
    }

    private static void anyRound() {
        Check.sentence("there is a ROUND (0 to 31)");
        for (int round = 0; round <= 31; round += 31) {
            Chain x = grown(1);
            for (int n = 0; n <= 10; n++) {
                x.forge(n, PRECOMMIT, 1, round, 2, -1);
            }
            Check.due("round " + round, x.follow(2), 1);
        }
    }

    private static void justOneAbove() {
        Check.sentence("if HEIGHT b is just 1 above, PARENT of b is the trusted one, and its CLAIM these POWERS");
        Chain x = grown(2);
        int wrongClaim = x.block(0, 0, -1, -1, 0b11111111111);
        certify(x, wrongClaim, 0, 10);
        Check.due("a claim that is not the powers", x.follow(wrongClaim), -1);
        int notSound = x.block(0, 0, x.submit(0, 20, 20, 1000), -1, -1);
        certify(x, 3, 0, 10);
        certify(x, notSound, 0, 10);
        Check.due("not sound, but its claim is right", x.follow(notSound), 1);
        Check.due("trusted", x.count(4), notSound);
        Chain y = grown(2);
        int rival = y.block(0, 0, -1, -1, -1);
        certify(y, rival, 0, 10);
        certify(y, 3, 0, 10);
        Check.due("1 above", y.follow(rival), 1);
        Check.due("1 above, of another parent", y.follow(3), -1);
        Check.due("trusted", y.count(4), rival);
    }

    private static void twoAbove() {
        Check.sentence("if HEIGHT b is just 1 above (2)");
        Chain x = grown(3);
        int rival = x.block(0, 0, -1, -1, -1);
        int claims = x.block(0, 2, -1, -1, 0b11111111111);
        certify(x, claims, 0, 10);
        certify(x, rival, 0, 10);
        certify(x, 4, 0, 10);
        Check.due("a claim of other powers, 2 above", x.follow(claims), 1);
        Chain y = grown(3);
        rival = y.block(0, 0, -1, -1, -1);
        certify(y, rival, 0, 10);
        certify(y, 4, 0, 10);
        Check.due("1 above", y.follow(rival), 1);
        Check.due("2 above, in another chain", y.follow(4), 1);
    }

    private static void trustedIsNotSound() {
        Check.sentence("(all 0 if that is not SOUND)");
        Chain x = grown(1);
        int bad = x.block(0, 2, -1, -1, 0b11111111111);
        int child = x.block(0, bad, -1, -1, -1);
        int empty = x.block(0, bad, -1, -1, 0);
        int good = x.block(0, x.block(0, x.block(0, 2, -1, -1, -1), -1, -1, -1), -1, -1, -1);
        certify(x, bad, 0, 10);
        certify(x, child, 0, 10);
        certify(x, empty, 0, 10);
        certify(x, good, 0, 10);
        Check.due("it is trusted", x.follow(bad), 1);
        Check.due("its child", x.follow(child), -1);
        Check.due("its child with a claim of nothing", x.follow(empty), -1);
        Check.due("2 above, sound: 4, then 3", x.follow(good), -2);
        Check.due("trusted", x.count(4), bad);
    }

    private static void halfOfAnOddSum() {
        Check.sentence("half way (of both HEIGHTS the sum, halved, rounded down)");
        Chain x = grown(42);
        certify(x, 42, 0, 10);
        certify(x, 21, 0, 10);
        Check.due("41, 20, 41", x.follow(42), 3);
        Chain y = grown(42);
        certify(y, 42, 0, 10);
        certify(y, 22, 0, 10);
        Check.due("not 21", y.follow(42), -2);
        Chain z = grown(42);
        certify(z, 2, 0, 10);
        certify(z, 43, 0, 10);
        certify(z, 22, 0, 10);
        Check.due("1", z.follow(2), 1);
        Check.due("42, half of 1 and 42 is 21", z.follow(43), 3);
    }

    /** NODES 0, 1 and 2 have most of the CLAIM, but not a third of the POWERS that are trusted. */
    private static void halfOfTwo() {
        Check.sentence("and HEIGHT b is more than 1 above (2)");
        Chain x = grown(1);
        int b = x.block(0, 2, -1, -1, 0b111);
        certify(x, b, 0, 2);
        Check.due("2, then 1, which has no precommits", x.follow(b), -2);
        certify(x, 2, 0, 10);
        Check.due("2, 1, then 2 is 1 above, and its claim is wrong", x.follow(b), -3);
        Check.due("what it trusts by then stays", x.count(4), 2);
    }

    private static void noHalfWithoutMost() {
        Check.sentence("but precommits in some ROUND have more than 2 thirds of b's CLAIM");
        Chain x = grown(41);
        certify(x, 21, 0, 10);
        certify(x, 42, 1, 10);
        Check.due("ten of sixteen", x.follow(42), -1);
        Check.due("nothing", x.count(4), 0);
        certify(x, 42, 0, 0);
        Check.due("eleven", x.follow(42), 3);
    }

    private static void noHalfOfOne() {
        Check.sentence("and HEIGHT b is more than 1 above (1, 0, below)");
        Chain x = grown(3);
        int wrong = x.block(0, 0, -1, -1, 0b111);
        certify(x, wrong, 0, 10);
        Check.due("1 above", x.follow(wrong), -1);
        certify(x, 4, 0, 10);
        certify(x, 2, 0, 10);
        Check.due("3 above", x.follow(4), 1);
        Check.due("0 above", x.follow(4), -1);
        Check.due("2 below", x.follow(2), -1);
    }

    private static void halfIsNotTrusted() {
        Check.sentence("then, if it trusts that, LOOKS at b again");
        Chain x = grown(100);
        certify(x, 101, 0, 10);
        Check.due("100, 50", x.follow(101), -2);
        certify(x, 51, 0, 10);
        Check.due("100, 50, 25", x.follow(101), -3);
        certify(x, 26, 0, 10);
        Check.due("100, 50, 25, 50, 100, 75", x.follow(101), -6);
        Check.due("what it trusts by then stays", x.count(4), 51);
        certify(x, 76, 0, 10);
        Check.due("100, 75, 100", x.follow(101), 3);
        Check.due("trusted", x.count(4), 101);
    }

    private static void eachTimeCounts() {
        Check.sentence("It LOOKS at a BLOCK b (each time counts)");
        Chain x = grown(120);
        for (int h = 15; h <= 120; h += 15) {
            certify(x, h + 1, 0, 10);
        }
        Check.due("120, 60, 30, 60, 120, 90, 120", x.follow(121), 7);
        Check.due("trusted", x.count(4), 121);
    }

    /** From HEIGHT 8 on each BLOCK moves all but 100 of the POWER to another NODE, so no HEIGHT can be left out. */
    private static void stepByStep() {
        Check.sentence("it first follows, likewise, the BLOCK in the CHAIN of b half way, and so on");
        Chain x = new Chain();
        Check.faultAll(x, 0, 15);
        int b = 0;
        for (int n = 2; n < 16; n += 2) {
            b = x.block(0, b, x.submit(2, n, n, 100), x.submit(2, n + 1, n + 1, 100), -1);
        }
        b = x.block(0, b, x.submit(2, 1, 1, 100), x.submit(1, 20, 2, 998), -1);
        for (int n = 0; n < 6; n++) {
            x.forge(n, PRECOMMIT, 8, 0, b, -1);
        }
        Check.due("height 8", x.follow(b), 1);
        int steps = 90;
        for (int i = 0; i < steps; i++) {
            int node = 2 + i % 14;
            int next = 2 + (i + 1) % 14;
            b = x.block(0, b, x.submit(2, 20 + i, node, 998), x.submit(1, 21 + i, next, 998), -1);
            x.forge(node, PRECOMMIT, 9 + i, 31, b, -1);
        }
        Check.due("sound", x.of(b, 3), 1);
        Check.due("each height but the last is a half once, each way of two or more fails once", x.follow(b), 2 * steps - 1);
        Check.due("trusted", x.count(4), b);
    }

    private static void height120() {
        Check.sentence("HEIGHT b is 1 to 40 above (up to 120, 121 and more)");
        Chain x = grown(140);
        for (int h = 40; h <= 120; h += 40) {
            certify(x, h + 1, 0, 10);
            Check.due("40 more", x.follow(h + 1), 1);
        }
        Check.due("trusted", x.count(4), 121);
        Check.due("121 has no precommits", x.follow(122), -1);
        Check.due("nor has 140", x.follow(141), -1);
        Check.due("nor can it have any", () -> x.forge(0, PRECOMMIT, 121, 0, 122, -1), Check.IAE);
    }

    private static void counts() {
        Check.sentence("count: what 0 to 8, IllegalArgumentException for others");
        Chain x = new Chain();
        int[] first = {0, 2, 2, 0, 0, 0, 0, 0, 0};
        for (int what = 0; what <= 8; what++) {
            Check.due("count(" + what + ")", x.count(what), first[what]);
        }
        Check.due("-1", () -> x.count(-1), Check.IAE);
        Check.due("9", () -> x.count(9), Check.IAE);
        x.submit(0, 0, 0, 1);
        x.fault(15);
        x.forge(15, 1, 1, 0, 0, -1);
        x.forge(15, 1, 1, 0, 1, -1);
        x.block(15, 0, -1, -1, -1);
        int[] then = {1, 4, 3, 1, 0, 0, 0, 0, 0};
        for (int what = 0; what <= 8; what++) {
            Check.due("then count(" + what + ")", x.count(what), then[what]);
        }
    }

    /** NODES 11 to 15 are led to BLOCKS 2 or 3 of HEIGHT 1, and to 4, the child of 2. */
    private static Chain led() {
        Chain x = new Chain();
        Check.faultAll(x, 0, 10);
        x.block(0, 0, -1, -1, -1);
        x.block(0, 0, -1, -1, -1);
        x.block(0, 2, -1, -1, -1);
        certify(x, 2, 0, 10);
        for (int n = 0; n <= 10; n++) {
            x.forge(n, PRECOMMIT, 1, 1, 3, -1);
        }
        certify(x, 4, 0, 10);
        return x;
    }

    private static void pairsThatAreApart() {
        Check.sentence("5: pairs of NODES that are not FAULTY of which LAST of neither is in the CHAIN of that of the other");
        Chain x = led();
        Check.due("all at 0", x.count(5), 0);
        x.sync(11, 2);
        Check.due("one ahead", x.count(5), 0);
        x.sync(12, 2);
        Check.due("the same last", x.count(5), 0);
        x.sync(15, 3);
        Check.due("15 against 11 and 12", x.count(5), 2);
        x.sync(12, 4);
        Check.due("higher up as well", x.count(5), 2);
        x.sync(14, 3);
        Check.due("two against two", x.count(5), 4);
        x.power(13, 0);
        x.sync(13, 2);
        x.expire(13);
        Check.due("one that is down counts", x.count(5), 6);
        x.fault(15);
        Check.due("one that is faulty does not", x.count(5), 3);
    }

    private static void offTheClient() {
        Check.sentence("6: NODES that are not FAULTY whose LAST is not in the CHAIN of what THE CLIENT trusts, nor that in the CHAIN of LAST");
        Chain x = led();
        x.sync(11, 2);
        x.sync(12, 2);
        x.sync(12, 4);
        x.sync(15, 3);
        Check.due("all are on top of 0", x.count(6), 0);
        Check.due("trusts 2", x.follow(2), 1);
        Check.due("15 is off; 13 and 14 are below, 12 is above", x.count(6), 1);
        Check.due("trusts 4", x.follow(4), 1);
        Check.due("15 is off still, 11 is below", x.count(6), 1);
        Check.due("greatest height", x.count(7), 2);
        x.fault(12);
        Check.due("greatest height without 12", x.count(7), 1);
        x.fault(15);
        Check.due("nobody is off", x.count(6), 0);
        Chain y = led();
        Check.due("trusts 3", y.follow(3), 1);
        y.sync(12, 2);
        y.sync(12, 4);
        y.sync(11, 2);
        Check.due("both are off", y.count(6), 2);
    }
}
