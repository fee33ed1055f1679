/** Promise 5, and a bridge that never pays twice, whatever forks there were. */
public final class BridgeTest {
    private static final Checks CHECKS = new Checks("BridgeTest");

    public static void main(String[] args) {
        locks();
        refusals();
        full();
        pays();
        paysNeverTwice();
        poorBridge();
        claimsInThePool();
        forks();
        programsMakeNoLocks();
        CHECKS.end();
    }

    private static void finalise(ForkBridge x, int chain, int source, int block, int child) {
        for (int v = 0; v < 3; v++) {
            x.vote(chain, v, source, block);
            x.vote(chain, v, block, child);
        }
    }

    /** A lock of 500 for the person 4, in the final block 1 of the chain. */
    private static ForkBridge locked(int chain) {
        ForkBridge x = new ForkBridge();
        x.submit(chain, 0, 0, 15, 500, 10, 30, 20, 2);
        x.make(chain, 0, 5, 1);
        x.make(chain, 1, 5, 1);
        finalise(x, chain, 0, 1, 2);
        return x;
    }

    private static void locks() {
        ForkBridge x = locked(0);
        CHECKS.same("the coins lie in the bridge", x.coins(0, 1, 15), 20500);
        CHECKS.same("20 gas", x.transactionAt(0, 1, 0), 2000001);
        CHECKS.same("claim", x.claim(1, 1, 0, 0, 20, 2), 0);
        ForkBridge one = new ForkBridge();
        one.submit(0, 0, 0, 15, 1, 0, 20, 20, 2);
        CHECKS.refused(one, "a value of 1 is a lock", Checks.NO_STATE, () -> one.claim(1, 1, 0, 0, 20, 2));
        ForkBridge y = locked(1);
        CHECKS.same("the other way", y.claim(0, 1, 0, 0, 20, 2), 0);
        CHECKS.refused(y, "a claim where the lock is", Checks.NO_ARGUMENT, () -> y.claim(1, 1, 0, 0, 20, 2));
        CHECKS.same("least", x.claim(1, 0, 0, 0, 1, 0), 1);
        CHECKS.same("greatest", x.claim(1, 5, 9, 0, 100, 100), 2);
    }

    private static void refusals() {
        ForkBridge x = locked(0);
        x.submit(0, 1, 0, 15, 0, 0, 20, 20, 0);
        x.submit(0, 2, 0, 14, 10, 0, 20, 20, 0);
        x.submit(0, 3, 0, 15, 10, 0, 20, 20, 0);
        int[][] none = {{-1, 1, 0, 0, 20, 2}, {2, 1, 0, 0, 20, 2}, {1, 1, 0, -1, 20, 2}, {1, 1, 0, 4, 20, 2}, {0, 1, 0, 0, 20, 2},
            {1, -1, 0, 0, 20, 2}, {1, 6, 0, 0, 20, 2}, {1, 6, 10, 1, 0, 2}};
        for (int[] a : none) {
            CHECKS.throwing("claim " + java.util.Arrays.toString(a), Checks.NO_INDEX, () -> claim(x, a));
        }
        int[][] wrong = {{1, 1, -1, 0, 20, 2}, {1, 1, 10, 0, 20, 2}, {1, 1, 0, 0, 0, 0}, {1, 1, 0, 0, 101, 2}, {1, 1, 0, 0, 20, -1},
            {1, 1, 0, 0, 20, 21}, {1, 1, 0, 1, 20, 2}, {1, 1, 0, 2, 20, 2}, {1, 1, 10, 3, 20, 2}};
        for (int[] a : wrong) {
            CHECKS.throwing("claim " + java.util.Arrays.toString(a), Checks.NO_ARGUMENT, () -> claim(x, a));
        }
        CHECKS.throwing("a lock in no block", Checks.NO_STATE, () -> x.claim(1, 1, 0, 3, 20, 2));
        x.make(0, 2, 5, 1);
        CHECKS.throwing("a lock in a block that is not final", Checks.NO_STATE, () -> x.claim(1, 1, 0, 3, 20, 2));
        x.make(0, 3, 5, 1);
        finalise(x, 0, 2, 3, 4);
        CHECKS.same("now it is final", x.claim(1, 1, 0, 3, 20, 2), 0);
        CHECKS.same("a block that the last final one comes from", x.claim(1, 2, 0, 0, 20, 2), 1);
        CHECKS.throwing("a claim is no lock", Checks.NO_ARGUMENT, () -> x.claim(0, 1, 0, 0, 20, 2));
        x.prune(0);
        CHECKS.same("a dropped state is no matter", x.claim(1, 3, 0, 0, 20, 2), 2);
    }

    private static int claim(ForkBridge x, int[] a) {
        return x.claim(a[0], a[1], a[2], a[3], a[4], a[5]);
    }

    private static void full() {
        ForkBridge x = locked(0);
        for (int n = 0; n < 40; n++) {
            CHECKS.same("number", x.claim(1, n % 6, n / 6, 0, 100, n), n);
        }
        CHECKS.refused(x, "a 41st", Checks.NO_STATE, () -> x.claim(1, 0, 9, 0, 100, 99));
        CHECKS.refused(x, "a wrong 41st", Checks.NO_ARGUMENT, () -> x.claim(1, 0, 9, 0, 100, 101));
        CHECKS.refused(x, "a 41st by submit", Checks.NO_STATE, () -> x.submit(1, 0, 9, 0, 0, 0, 20, 100, 100));
        ForkBridge y = locked(0);
        y.claim(1, 0, 0, 0, 20, 0);
        CHECKS.refused(y, "a step behind a claim", Checks.NO_STATE, () -> y.step(0, 0, 0));
    }

    private static void pays() {
        ForkBridge x = locked(0);
        x.claim(1, 1, 0, 0, 20, 2);
        x.make(1, 0, 3, 1);
        CHECKS.same("it ends well, with 20 gas", x.transactionAt(1, 1, 0), 2000001);
        CHECKS.same("the bridge pays", x.coins(1, 1, 15), 19500);
        CHECKS.same("the person whose number is the input modulo 6", x.coins(1, 1, 4), 10500);
        CHECKS.same("the sender pays the gas that was used", x.coins(1, 1, 1), 10000 - 20 * 11);
        CHECKS.same("the producer", x.coins(1, 1, 3), 10000 + 20 * 2);
        CHECKS.same("burned", x.burned(1, 1), 20 * 9);
        CHECKS.same("nonce", x.codeOf(1, 1, 1), 10);
        CHECKS.same("root anew", x.rootAnew(1, 1), x.root(1, 1));
        CHECKS.same("root anew, once more", x.rootAnew(1, 1), x.root(1, 1));
        ForkBridge poor = locked(0);
        poor.submit(1, 1, 0, 0, 9000, 0, 20, 20, 0);
        poor.claim(1, 1, 1, 0, 14, 0);
        poor.make(1, 0, 3, 1);
        CHECKS.same("60 gas at its most are too dear", Look.countTransactions(poor, 1, 1), 1);
        for (int most = 30; most <= 31; most++) {
            ForkBridge just = locked(0);
            just.submit(1, 1, 0, 0, 8000, 0, 20, 9, 0);
            just.claim(1, 1, 1, 0, most, 0);
            just.make(1, 0, 3, 1);
            CHECKS.same("1820 coins are left for 60 times " + most, Look.countTransactions(just, 1, 1), most == 30 ? 2 : 1);
        }
    }

    private static void paysNeverTwice() {
        ForkBridge x = locked(0);
        x.claim(1, 1, 0, 0, 20, 2);
        x.claim(1, 2, 0, 0, 20, 2);
        x.make(1, 0, 3, 1);
        CHECKS.same("the first one ends well", x.transactionAt(1, 1, 0), 2000001);
        CHECKS.same("the second one badly", x.transactionAt(1, 1, 1), 2000010);
        CHECKS.same("it pays its gas", x.coins(1, 1, 2), 10000 - 20 * 11);
        CHECKS.same("once", x.coins(1, 1, 4), 10500);
        x.claim(1, 5, 0, 0, 20, 2);
        x.make(1, 1, 3, 1);
        CHECKS.same("nor in a later block", x.transactionAt(1, 2, 0), 2000020);
        CHECKS.same("once", x.coins(1, 2, 4), 10500);
    }

    private static void poorBridge() {
        // Three persons lock all they have, again and again, until the other bridge has fewer coins than a lock's value.
        ForkBridge x = new ForkBridge();
        for (int person = 0; person < 3; person++) {
            x.submit(0, person, 0, 15, 9500, 5, 20, 20, 0);
        }
        x.submit(0, 3, 0, 15, 1000, 5, 20, 20, 0);
        x.submit(0, 4, 0, 15, 1001, 5, 20, 20, 0);
        x.make(0, 0, 5, 1);
        x.make(0, 1, 5, 1);
        finalise(x, 0, 0, 1, 2);
        CHECKS.same("48500 and one", x.coins(0, 1, 15), 20000 + 3 * 9500 + 2001);
        x.claim(1, 0, 0, 0, 20, 9);
        x.claim(1, 1, 0, 1, 20, 8);
        x.claim(1, 2, 0, 2, 20, 7);
        x.claim(1, 3, 0, 4, 20, 6);
        x.claim(1, 3, 1, 3, 20, 6);
        x.make(1, 0, 0, 1);
        CHECKS.same("the first two are paid", x.transactionAt(1, 1, 0) % 10 + x.transactionAt(1, 1, 1) % 10, 2);
        CHECKS.same("1000 are left, and not 9500", x.transactionAt(1, 1, 2), 2000020);
        CHECKS.same("nor 1001", x.transactionAt(1, 1, 3), 2000030);
        CHECKS.same("but just 1000", x.transactionAt(1, 1, 4), 2000041);
        CHECKS.same("the bridge is empty", x.coins(1, 1, 15), 0);
        CHECKS.same("the person", x.coins(1, 1, 5), 30000);
        x.submit(1, 4, 0, 15, 9500, 0, 20, 20, 0);
        x.claim(1, 2, 1, 2, 20, 0);
        x.make(1, 1, 0, 1);
        CHECKS.same("one that was not paid can be claimed again", x.transactionAt(1, 2, 1), 2000061);
        CHECKS.same("when there are coins", x.coins(1, 2, 5), 39500);
    }

    private static void claimsInThePool() {
        ForkBridge x = locked(0);
        x.submit(1, 1, 0, 0, 0, 0, 20, 20, 10);
        CHECKS.same("a claim is refused like others", x.claim(1, 1, 0, 0, 21, 20), ForkBridge.NONE);
        CHECKS.same("a claim replaces like others", x.claim(1, 1, 0, 0, 22, 11), 1);
        CHECKS.same("pool", x.pool(1), 1);
        CHECKS.same("a claim is replaced like others", x.submit(1, 1, 0, 0, 0, 0, 20, 30, 20), 2);
        for (int n = 0; n < 9; n++) {
            x.claim(1, 2, n, 0, 20, 3);
        }
        CHECKS.same("a full pool refuses a claim", x.claim(1, 3, 0, 0, 20, 3), ForkBridge.NONE);
        CHECKS.same("or throws one out", x.claim(1, 3, 0, 0, 20, 4), 12);
        CHECKS.same("pool", x.pool(1), 10);
        x.make(1, 0, 0, 1);
        CHECKS.same("the last claim of person 2 is gone", Look.countTransactions(x, 1, 1), 10);
    }

    private static void forks() {
        ForkBridge x = locked(0);
        x.claim(1, 1, 0, 0, 20, 2);
        x.make(1, 0, 3, 1);
        x.make(1, 0, 3, 2);
        x.make(1, 2, 3, 1);
        CHECKS.same("paid in one line", x.coins(1, 1, 4), 10500);
        CHECKS.same("paid in the other line, on the state of its own", x.coins(1, 3, 4), 10500);
        x.claim(1, 2, 0, 0, 20, 2);
        x.make(1, 1, 3, 1);
        x.make(1, 3, 3, 1);
        CHECKS.same("in either line the second claim ends badly", x.transactionAt(1, 4, 0), 2000010);
        CHECKS.same("in either line the second claim ends badly", x.transactionAt(1, 5, 0), 2000010);
        for (int block = 1; block < 6; block++) {
            CHECKS.same("once in each line", x.coins(1, block, 4), 10500);
        }
        ForkBridge y = new ForkBridge();
        y.submit(0, 0, 0, 15, 500, 4, 30, 20, 2);
        y.make(0, 0, 5, 1);
        y.submit(0, 0, 0, 15, 600, 4, 30, 20, 2);
        y.submit(0, 0, 0, 15, 600, 4, 100, 30, 9);
        y.make(0, 0, 5, 1);
        CHECKS.same("a dearer one of the same nonce", y.transactionAt(0, 2, 0) / 10 % 10, 2);
        y.make(0, 2, 5, 1);
        finalise(y, 0, 0, 2, 3);
        CHECKS.same("final", y.lastFinal(0), 2);
        CHECKS.refused(y, "a lock of a lost fork", Checks.NO_STATE, () -> y.claim(1, 0, 0, 0, 20, 0));
        CHECKS.same("the lock of the final line", y.claim(1, 0, 0, 2, 20, 0), 0);
    }

    private static void programsMakeNoLocks() {
        ForkBridge x = Lab.of(ForkBridge.PUSH, 15, ForkBridge.PUSH, 50, ForkBridge.PUSH, 3, ForkBridge.CALL, 0).x;
        x.make(0, 1, 5, 1);
        finalise(x, 0, 0, 1, 2);
        CHECKS.same("the coins are there", x.coins(0, 1, 15), 20050);
        CHECKS.refused(x, "a call is no lock", Checks.NO_ARGUMENT, () -> x.claim(1, 0, 0, 1, 20, 0));
    }
}
