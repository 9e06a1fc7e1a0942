/** Promise 1, and what 12, 13, 14, 15, 16 and 18 answer of a new object. */
public final class NewObjectTest {
    public static void main(String[] args) {
        StakeChain x = new StakeChain();
        int[] counts = {0, 2, 2, 0, 0, 0, 0, 0, 0};
        for (int what = 0; what < counts.length; what++) {
            Check.due("count " + what, x.count(what), counts[what]);
        }
        for (int n = 0; n < 16; n++) {
            boolean first = n == 1;
            int[] told = {1, 0, first ? 1 : 0, 0, -1, -1, -1, -1, first ? 2 : 0, 0, 1, first ? 24 : 0};
            for (int what = 0; what < told.length; what++) {
                Check.due("told " + n + " " + what, x.told(n, what), told[what]);
            }
        }
        Check.isMessage("the proposal", x, 0, 0, 1, 1, 0, 1, -1);
        Check.isMessage("the prevote", x, 1, 1, 1, 1, 0, 1, -1);
        blocks(x);
        ledger(x);
        Check.due("count(-1)", () -> x.count(-1), Check.IAE);
        Check.due("count(9)", () -> x.count(9), Check.IAE);
        Check.end();
    }

    private static void blocks(StakeChain x) {
        int[][] heads = {{0, -1, -1, 1, 0}, {1, 0, 1, 1, 0}};
        for (int b = 0; b < 2; b++) {
            for (int what = 0; what < 33; what++) {
                int want = what < 5 ? heads[b][what] : what < 17 ? -1 : 100;
                Check.due("of " + b + " " + what, x.of(b, what), want);
            }
        }
    }

    private static void ledger(StakeChain x) {
        for (int b = 0; b < 2; b++) {
            for (int a = 0; a < 200; a += 9) {
                for (int what = 0; what < 18; what++) {
                    int want = what == 0 ? 1000 : what == a + 1 && a < 16 ? 100 : 0;
                    Check.due("account " + b + " " + a + " " + what, x.account(b, a, what), want);
                }
            }
            for (int what = 0; what < 21; what++) {
                int want = what < 16 ? 100 : what == 19 ? 16 : what == 20 ? 201600 : 0;
                Check.due("sum " + b + " " + what, x.sum(b, what), want);
            }
        }
    }
}
