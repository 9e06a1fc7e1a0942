/** Promise 9, and 5 to 7 of promise 18. */
public final class SyncTest {
    public static void main(String[] args) {
        leading();
        certificates();
        splits();
        Check.end();
    }

    /** NODE 15 hears nothing, and is led on. */
    private static void leading() {
        Chain x = new Chain();
        Check.runTo(x, 5, 0x7fff);
        Check.due("it lags", x.told(15, 0), 1);
        Check.due("not its next", x.sync(15, 2), 1);
        Check.due("block 0", x.sync(15, 0), 1);
        x.deliver(0, 15);
        Check.due("it had voted", x.told(15, 11), 12);
        Check.due("block 1", x.sync(15, 1), 2);
        Check.due("the log is empty", x.told(15, 11), 0);
        Check.stands("a new height", x, 15, 0, 0, -1, -1, -1, -1);
        Check.due("block 1 again", x.sync(15, 1), 2);
        Check.due("block 2", x.sync(15, 2), 3);
        Check.due("block 3", x.sync(15, 3), 4);
        Check.due("block 4", x.sync(15, 4), 5);
        Check.due("last", x.told(15, 3), 4);
        Check.due("it knows what it knew", x.told(15, 8), 2);
        Check.due("one that is ahead", x.sync(0, 1), x.told(0, 0));
        Check.due("no split", x.count(5), 0);
        int tip = x.told(0, 3);
        x.fault(14);
        int height = x.told(14, 0);
        Check.due("one that is faulty", x.sync(14, tip), height);
    }

    private static void certificates() {
        Chain x = new Chain();
        Check.faultAll(x, 0, 11);
        int b = x.block(0, 0, -1, -1, -1);
        int bad = x.block(0, 0, -1, -1, 1);
        for (int n = 1; n < 10; n++) {
            x.forge(n, 2, 1, 3, b, -1);
            x.forge(n, 2, 1, 3, bad, -1);
        }
        x.forge(9, 2, 1, 3, b, -1);
        x.forge(10, 1, 1, 3, b, -1);
        x.forge(10, 2, 1, 4, b, -1);
        x.forge(10, 2, 2, 3, b, -1);
        x.forge(10, 2, 1, 3, -1, -1);
        x.forge(11, 2, 1, 3, b, -1);
        Check.due("ten in a round", x.sync(15, b), 1);
        x.forge(10, 2, 1, 3, b, -1);
        x.forge(10, 2, 1, 3, bad, -1);
        x.forge(11, 2, 1, 3, bad, -1);
        Check.due("eleven", x.sync(15, b), 2);
        Check.due("not sound", x.sync(14, bad), 1);
        Check.due("last", x.told(15, 3), b);
        int child = x.block(0, b, -1, -1, -1);
        for (int n = 0; n < 11; n++) {
            x.deliver(x.forge(n, 2, 2, 0, child, -1), 15);
        }
        x.deliver(x.forge(2, 0, 2, 0, child, -1), 14);
        for (int m = 0; m < x.count(1); m++) {
            if (x.message(m, 2) == 2) {
                x.deliver(m, 14);
            }
        }
        Check.due("it does what can be done then: the next height is decided", x.sync(14, b), 3);
    }

    /** NODES 4 to 14 FAULTY: so the first and the last NODE are among those that are looked at. */
    private static void splits() {
        Chain x = new Chain();
        Check.faultAll(x, 4, 14);
        int one = x.block(4, 0, -1, -1, -1);
        int two = x.block(4, 0, -1, -1, -1);
        int child = x.block(4, one, -1, -1, -1);
        for (int n = 4; n < 15; n++) {
            x.forge(n, 2, 1, 0, one, -1);
            x.forge(n, 2, 1, 1, two, -1);
            x.forge(n, 2, 2, 0, child, -1);
        }
        x.sync(0, one);
        x.sync(15, two);
        Check.due("0 against 15", x.count(5), 1);
        x.sync(0, child);
        Check.due("0 against 15", x.count(5), 1);
        Check.due("greatest height", x.count(7), 2);
        x.sync(3, one);
        Check.due("0 and 3 against 15", x.count(5), 2);
        Check.due("client at 0", x.count(6), 0);
        Check.due("follow", x.follow(two), 1);
        Check.due("0 and 3 are off", x.count(6), 2);
        x.fault(15);
        Check.due("no split but by one that is faulty", x.count(5), 0);
        x.fault(0);
        Check.due("greatest height", x.count(7), 1);
        Check.due("3 is off", x.count(6), 1);
        Check.faultAll(x, 0, 15);
        Check.due("nobody", x.count(7), 0);
        Check.due("nobody", x.count(6), 0);
        Check.due("all", x.count(3), 16);
        Check.due("those that are faulty are not counted", x.count(8), 0);
    }
}
