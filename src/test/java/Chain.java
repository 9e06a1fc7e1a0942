/** A StakeChain whose calls are counted: behind the 512th nothing is promised, so no test may lean on it. */
final class Chain {
    private static final int PROMISED = 512;

    private final StakeChain chain = new StakeChain();
    private int calls;

    private StakeChain called() {
        calls++;
        if (calls > PROMISED) {
            throw new AssertionError("a test makes more calls on one object than are promised");
        }
        return chain;
    }

    int submit(int kind, int a, int b, int v) {
        return called().submit(kind, a, b, v);
    }

    int fault(int n) {
        return called().fault(n);
    }

    int deliver(int m, int n) {
        return called().deliver(m, n);
    }

    int spread(int m, int many, int nodes) {
        return called().spread(m, many, nodes);
    }

    int expire(int n) {
        return called().expire(n);
    }

    int forge(int n, int kind, int height, int round, int block, int before) {
        return called().forge(n, kind, height, round, block, before);
    }

    int block(int n, int parent, int one, int two, int claim) {
        return called().block(n, parent, one, two, claim);
    }

    int sync(int n, int b) {
        return called().sync(n, b);
    }

    void power(int n, int b) {
        called().power(n, b);
    }

    int start(int n) {
        return called().start(n);
    }

    int told(int n, int what) {
        return called().told(n, what);
    }

    int message(int m, int what) {
        return called().message(m, what);
    }

    int of(int b, int what) {
        return called().of(b, what);
    }

    int account(int b, int a, int what) {
        return called().account(b, a, what);
    }

    int sum(int b, int what) {
        return called().sum(b, what);
    }

    int follow(int b) {
        return called().follow(b);
    }

    int count(int what) {
        return called().count(what);
    }
}
