/** Promises 4 and 6: transactions, what is fit, what is paid, and the pool. (Claims: BridgeTest.) */
public final class TransactionsTest {
    private static final Checks CHECKS = new Checks("TransactionsTest");

    public static void main(String[] args) {
        ranges();
        refusals();
        full();
        fees();
        fitness();
        replacing();
        throwingOut();
        poolAcrossForks();
        moreThanTen();
        severalRivals();
        CHECKS.end();
    }

    private static int plain(ForkBridge x, int sender, int nonce, int most, int tip) {
        return x.submit(0, sender, nonce, 5, 1, 0, 20, most, tip);
    }

    private static void ranges() {
        ForkBridge x = new ForkBridge();
        CHECKS.same("least", x.submit(0, 0, 0, 0, 0, 0, 20, 1, 0), 0);
        CHECKS.same("greatest", x.submit(0, 5, 9, 23, 10000, 9999, 600, 100, 100), 1);
        CHECKS.same("the other chain counts for itself", x.submit(1, 0, 0, 0, 0, 0, 20, 1, 1), 0);
        CHECKS.same("pool", x.pool(0), 2);
        CHECKS.same("pool", x.pool(1), 1);
        CHECKS.refused(x, "pool of -1", Checks.NO_INDEX, () -> x.pool(-1));
        CHECKS.refused(x, "pool of 2", Checks.NO_INDEX, () -> x.pool(2));
    }

    private static void refusals() {
        ForkBridge x = new ForkBridge();
        plain(x, 0, 0, 20, 1);
        int[][] wrong = {{0, 0, -1, 0, 0, 0, 20, 1, 0}, {0, 0, 10, 0, 0, 0, 20, 1, 0}, {0, 0, 0, -1, 0, 0, 20, 1, 0},
            {0, 0, 0, 24, 0, 0, 20, 1, 0}, {0, 0, 0, 0, -1, 0, 20, 1, 0}, {0, 0, 0, 0, 10001, 0, 20, 1, 0},
            {0, 0, 0, 0, 0, -1, 20, 1, 0}, {0, 0, 0, 0, 0, 10000, 20, 1, 0}, {0, 0, 0, 0, 0, 0, 19, 1, 0},
            {0, 0, 0, 0, 0, 0, 601, 1, 0}, {0, 0, 0, 0, 0, 0, 20, 0, 0}, {0, 0, 0, 0, 0, 0, 20, 101, 0},
            {0, 0, 0, 0, 0, 0, 20, 1, -1}, {0, 0, 0, 0, 0, 0, 20, 7, 8}, {0, 0, 0, 0, 0, 0, Integer.MAX_VALUE, 1, 0}};
        for (int[] a : wrong) {
            CHECKS.throwing("argument " + java.util.Arrays.toString(a), Checks.NO_ARGUMENT, () -> submit(x, a));
        }
        int[][] none = {{-1, 0, 0, 0, 0, 0, 20, 1, 0}, {2, 0, 0, 0, 0, 0, 20, 1, 0}, {0, -1, 0, 0, 0, 0, 20, 1, 0},
            {0, 6, 0, 0, 0, 0, 20, 1, 0}, {0, 6, 10, 24, 0, 0, 0, 0, 0}};
        for (int[] a : none) {
            CHECKS.throwing("index " + java.util.Arrays.toString(a), Checks.NO_INDEX, () -> submit(x, a));
        }
    }

    private static int submit(ForkBridge x, int[] a) {
        return x.submit(a[0], a[1], a[2], a[3], a[4], a[5], a[6], a[7], a[8]);
    }

    /** Forty transactions: from the eleventh on, each throws one out. */
    private static void full() {
        ForkBridge x = new ForkBridge();
        for (int n = 0; n < 40; n++) {
            CHECKS.same("number", plain(x, n % 6, n / 6, 100, n), n);
        }
        CHECKS.same("ten in the pool", x.pool(0), 10);
        CHECKS.refused(x, "a 41st", Checks.NO_STATE, () -> plain(x, 0, 0, 100, 100));
        CHECKS.refused(x, "a 41st that would be refused", Checks.NO_STATE, () -> plain(x, 0, 9, 1, 0));
        CHECKS.refused(x, "a wrong 41st", Checks.NO_ARGUMENT, () -> plain(x, 0, 10, 100, 100));
        CHECKS.refused(x, "a 41st of nobody", Checks.NO_INDEX, () -> plain(x, 6, 10, 100, 100));
        CHECKS.same("the other chain has room", x.submit(1, 0, 0, 0, 0, 0, 20, 1, 0), 0);
    }

    private static void fees() {
        ForkBridge x = new ForkBridge();
        x.submit(0, 0, 0, 1, 100, 0, 50, 30, 4);
        x.submit(0, 2, 0, 1, 10, 0, 50, 11, 9);
        x.make(0, 0, 3, 1);
        CHECKS.same("base", x.base(0, 1), 9);
        CHECKS.same("the greater price less base is run first", x.transactionAt(0, 1, 0), 2000001);
        CHECKS.same("20 gas each", x.transactionAt(0, 1, 1), 2000011);
        CHECKS.same("used", x.used(0, 1), 40);
        CHECKS.same("base and tip is the price", x.coins(0, 1, 0), 10000 - 100 - 20 * 13);
        CHECKS.same("its most is the price", x.coins(0, 1, 2), 10000 - 10 - 20 * 11);
        CHECKS.same("values", x.coins(0, 1, 1), 10110);
        CHECKS.same("the producer", x.coins(0, 1, 3), 10000 + 20 * 4 + 20 * 2);
        CHECKS.same("burned", x.burned(0, 1), 40 * 9);
        CHECKS.same("nonce", x.codeOf(0, 1, 0), 10);
        x.submit(0, 0, 1, 0, 500, 0, 20, 30, 0);
        x.make(0, 1, 0, 1);
        CHECKS.same("to itself, by itself", x.coins(0, 2, 0), 10000 - 100 - 20 * 13 - 20 * x.base(0, 2));
        CHECKS.same("burned adds up", x.burned(0, 2), 40 * 9 + 20 * x.base(0, 2));
    }

    private static int alone(int nonce, int value, int gas, int most) {
        ForkBridge x = new ForkBridge();
        x.submit(0, 0, nonce, 1, value, 0, gas, most, 0);
        x.make(0, 0, 3, 1);
        return x.used(0, 1);
    }

    private static void fitness() {
        CHECKS.same("its most is the base", alone(0, 0, 20, 9), 20);
        CHECKS.same("its most is less than the base", alone(0, 0, 20, 8), 0);
        CHECKS.same("a later nonce", alone(1, 0, 20, 9), 0);
        CHECKS.same("just enough coins", alone(0, 4600, 600, 9), 20);
        CHECKS.same("a coin too few", alone(0, 4601, 600, 9), 0);
        CHECKS.same("its most counts, not its price", alone(0, 0, 200, 51), 0);
        CHECKS.same("its most counts, not its price", alone(0, 0, 200, 50), 20);
        ForkBridge x = new ForkBridge();
        plain(x, 0, 0, 20, 1);
        x.make(0, 0, 3, 1);
        plain(x, 0, 0, 50, 50);
        plain(x, 0, 2, 50, 50);
        plain(x, 0, 1, 20, 0);
        x.make(0, 1, 3, 1);
        CHECKS.same("an old nonce is not fit, the next ones are, in turn", x.transactionAt(0, 2, 0) % 1000 * 1000 + x.transactionAt(0, 2, 1) % 1000, 31021);
        CHECKS.same("no more", Look.countTransactions(x, 0, 2), 2);
        CHECKS.same("the old one waits", x.pool(0), 1);
    }

    private static int replaced(int most, int tip, int newMost, int newTip) {
        ForkBridge x = new ForkBridge();
        plain(x, 0, 0, most, tip);
        int answer = plain(x, 0, 0, newMost, newTip);
        CHECKS.same("one is left", x.pool(0), 1);
        return answer;
    }

    private static void replacing() {
        CHECKS.same("a tenth more of both", replaced(20, 10, 22, 11), 1);
        CHECKS.same("less than a tenth of most", replaced(20, 10, 21, 20), ForkBridge.NONE);
        CHECKS.same("less than a tenth of tip", replaced(20, 11, 30, 12), ForkBridge.NONE);
        CHECKS.same("rounding up", replaced(11, 1, 13, 2), 1);
        CHECKS.same("a tip of 0", replaced(10, 0, 11, 0), 1);
        CHECKS.same("the same", replaced(10, 0, 10, 0), ForkBridge.NONE);
        CHECKS.same("the tip stays", replaced(10, 1, 20, 1), ForkBridge.NONE);
        ForkBridge x = new ForkBridge();
        plain(x, 0, 0, 20, 1);
        CHECKS.same("another nonce", plain(x, 0, 1, 20, 1), 1);
        CHECKS.same("another sender", plain(x, 1, 0, 20, 1), 2);
        CHECKS.same("refused has no number", plain(x, 0, 0, 20, 1), ForkBridge.NONE);
        CHECKS.same("the next number", plain(x, 0, 0, 40, 2), 3);
        CHECKS.same("pool", x.pool(0), 3);
        x.make(0, 0, 3, 1);
        CHECKS.same("the new one is run", x.transactionAt(0, 1, 0), 2000031);
        CHECKS.same("the old one is not", Look.countTransactions(x, 0, 1), 3);
        CHECKS.same("pool", x.pool(0), 0);
        CHECKS.same("what is in the head is not replaced", plain(x, 0, 0, 20, 1), 4);
    }

    private static void throwingOut() {
        ForkBridge x = new ForkBridge();
        int[] tips = {5, 3, 9, 3, 7, 3, 5, 8, 6, 4};
        for (int n = 0; n < 10; n++) {
            CHECKS.same("number", plain(x, n % 5, n / 5, 20, tips[n]), n);
        }
        CHECKS.same("a lesser tip", plain(x, 5, 0, 20, 2), ForkBridge.NONE);
        CHECKS.same("the least tip", plain(x, 5, 0, 20, 3), ForkBridge.NONE);
        CHECKS.same("the pool stays", x.pool(0), 10);
        CHECKS.same("a greater tip", plain(x, 5, 0, 20, 4), 10);
        CHECKS.same("the pool stays at ten", x.pool(0), 10);
        CHECKS.same("replacing throws nothing out", plain(x, 5, 0, 40, 20), 11);
        CHECKS.same("the pool stays at ten", x.pool(0), 10);
        x.make(0, 0, 3, 1);
        // Number 5, the last one with the least tip, was thrown out; the person 0 has the numbers 0 and 5.
        CHECKS.same("nine more", Look.countTransactions(x, 0, 1), 10);
        boolean found = false;
        for (int place = 0; place < 10; place++) {
            found |= x.transactionAt(0, 1, place) / 10 % 100 == 5;
        }
        CHECKS.no("the thrown out one is not run", found);
    }

    private static void poolAcrossForks() {
        ForkBridge x = new ForkBridge();
        plain(x, 0, 0, 20, 1);
        x.make(0, 0, 3, 1);
        plain(x, 1, 0, 20, 1);
        CHECKS.same("pool", x.pool(0), 1);
        x.make(0, 0, 3, 1);
        CHECKS.same("the same weight: the head stays", x.head(0), 1);
        CHECKS.same("both are in the other block", x.used(0, 2), 40);
        CHECKS.same("pool by the head", x.pool(0), 1);
        x.make(0, 2, 3, 1);
        CHECKS.same("pool by the new head", x.pool(0), 0);
        x.make(0, 1, 3, 9);
        CHECKS.same("and back", x.head(0), 4);
        CHECKS.same("it is in this one too", x.used(0, 4), 20);
        x.make(0, 0, 3, 9);
        x.submit(0, 0, 0, 0, 0, 0, 20, 40, 2);
        CHECKS.same("what is in the head is not in the pool", x.pool(0), 1);
    }

    /** A block with but one dear transaction brings ten others back into a pool that has two already. */
    private static void moreThanTen() {
        ForkBridge x = new ForkBridge();
        x.step(0, ForkBridge.JUMP, 0);
        x.submit(0, 0, 0, 16, 0, 0, 20, 20, 0);
        x.make(0, 0, 5, 1);
        for (int n = 0; n < 10; n++) {
            plain(x, 1 + n % 5, n / 5, 20, 3);
        }
        x.make(0, 1, 5, 1);
        CHECKS.same("all ten are run", x.used(0, 2), 200);
        x.submit(0, 0, 1, 6, 0, 0, 600, 16, 9);
        plain(x, 0, 8, 20, 2);
        CHECKS.same("two wait", x.pool(0), 2);
        x.make(0, 1, 5, 2);
        CHECKS.same("the new head is full", x.used(0, 3), 600);
        CHECKS.same("eleven wait", x.pool(0), 11);
        CHECKS.same("a tip that is too low", plain(x, 0, 9, 20, 2), ForkBridge.NONE);
        CHECKS.same("one is thrown out", plain(x, 0, 9, 20, 3), 13);
        CHECKS.same("eleven wait", x.pool(0), 11);
        CHECKS.same("the one with the greatest number of those with the least tip", plain(x, 0, 7, 20, 4), 14);
        CHECKS.same("eleven wait", x.pool(0), 11);
        CHECKS.same("13 was thrown out, so that nothing is replaced", plain(x, 0, 9, 20, 3), ForkBridge.NONE);
    }

    private static void severalRivals() {
        ForkBridge x = new ForkBridge();
        x.step(0, ForkBridge.JUMP, 0);
        x.submit(0, 0, 0, 16, 0, 0, 20, 20, 0);
        x.make(0, 0, 5, 1);
        plain(x, 1, 0, 20, 5);
        x.make(0, 1, 5, 1);
        CHECKS.same("the first one is in the head", plain(x, 1, 0, 10, 2), 2);
        x.submit(0, 0, 1, 6, 0, 0, 600, 16, 9);
        x.make(0, 1, 5, 2);
        CHECKS.same("two of the same nonce wait", x.pool(0), 2);
        CHECKS.same("more than one of them alone", plain(x, 1, 0, 21, 6), ForkBridge.NONE);
        CHECKS.same("more than one of them alone", plain(x, 1, 0, 22, 5), ForkBridge.NONE);
        CHECKS.same("they stay", x.pool(0), 2);
        CHECKS.same("more than each", plain(x, 1, 0, 22, 6), 4);
        CHECKS.same("both are replaced", x.pool(0), 1);
        CHECKS.same("the old block keeps its own", x.transactionAt(0, 2, 0), 2000011);
        CHECKS.same("and its root", x.rootAnew(0, 2), x.root(0, 2));
    }
}
