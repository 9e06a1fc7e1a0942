/** Promise 1, and what 12, 13, 14, 15, 16 and 18 answer of a new object; each question that has an answer is asked. */
public final class NewObjectTest {
    public static void main(String[] args) {
        counts();
        nodes();
        messages();
        blocks();
        for (int a = 0; a < 200; a += 20) {
            accounts(0, a);
            accounts(1, a);
        }
        sums();
        Check.end();
    }

    private static void counts() {
        Check.sentence("As said; no TRANSACTIONS, no NODES FAULTY or DOWN");
        Chain x = new Chain();
        int[] counts = {0, 2, 2, 0, 0, 0, 0, 0, 0};
        for (int what = 0; what < counts.length; what++) {
            Check.due("count " + what, x.count(what), counts[what]);
        }
    }

    private static void nodes() {
        Check.sentence("At first ROUND 0 BEGINS for NODE 0, which does what can be done, then for 1, and so on");
        Chain x = new Chain();
        for (int n = 0; n < 16; n++) {
            boolean first = n == 1;
            int[] told = {1, 0, first ? 1 : 0, 0, -1, -1, -1, -1, first ? 2 : 0, 0, 1, first ? 24 : 0};
            for (int what = 0; what < told.length; what++) {
                Check.due("told " + n + " " + what, x.told(n, what), told[what]);
            }
        }
    }

    private static void messages() {
        Check.sentence("5: the ROUND before (-1 of votes)");
        Chain x = new Chain();
        Check.isMessage("the proposal", x, 0, 0, 1, 1, 0, 1, -1);
        Check.isMessage("the prevote", x, 1, 1, 1, 1, 0, 1, -1);
    }

    private static void blocks() {
        Check.sentence("1: PARENT (-1 of 0), 2: PROPOSER (-1 of 0), 17 to 32: its CLAIM (of 0 the POWERS in its STATE)");
        Chain x = new Chain();
        int[][] heads = {{0, -1, -1, 1, 0}, {1, 0, 1, 1, 0}};
        for (int b = 0; b < 2; b++) {
            for (int what = 0; what < 33; what++) {
                int want = what < 5 ? heads[b][what] : what < 17 ? -1 : 100;
                Check.due("of " + b + " " + what, x.of(b, what), want);
            }
        }
    }

    private static void accounts(int b, int from) {
        Check.sentence("In the STATE of BLOCK 0 BALANCES are 1000, ACCOUNT n has a BOND of 100 with NODE n (0 to 15)");
        Chain x = new Chain();
        for (int a = from; a < from + 20; a++) {
            for (int what = 0; what < 18; what++) {
                int want = what == 0 ? 1000 : what == a + 1 && a < 16 ? 100 : 0;
                Check.due("account " + b + " " + a + " " + what, x.account(b, a, what), want);
            }
        }
    }

    private static void sums() {
        Check.sentence("20: all BALANCES, BONDS, RETURNS and BURNT together");
        Chain x = new Chain();
        for (int b = 0; b < 2; b++) {
            for (int what = 0; what < 21; what++) {
                int want = what < 16 ? 100 : what == 19 ? 16 : what == 20 ? 201600 : 0;
                Check.due("sum " + b + " " + what, x.sum(b, what), want);
            }
        }
    }
}
