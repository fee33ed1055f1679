/** Promise 6 and the pool: what replaces, what is thrown out, what is refused, and what a refused one leaves. */
public final class PoolEdgesTest {
    private static final Checks CHECKS = new Checks("PoolEdgesTest");
    private static final int NONE = ForkBridge.NONE;
    private static final String TENTH = "(10 times the new ones are at least 11 times the old ones)";

    public static void main(String[] args) {
        countOf();
        notInTheHead();
        eachMost();
        eachTip();
        replacing();
        replacedOnOtherForks();
        severalRivals();
        claimsToo();
        tenOrMore();
        leastTip();
        moreThanTen();
        replacingInAFullPool();
        refusedHasNoNumber();
        refusedClaimLeavesNothing();
        CHECKS.end();
    }

    private static int plain(ForkBridge x, int sender, int nonce, int most, int tip) {
        return x.submit(0, sender, nonce, 5, 1, 0, 20, most, tip);
    }

    private static ForkBridge with(int[]... submitted) {
        ForkBridge x = new ForkBridge();
        for (int[] s : submitted) {
            plain(x, s[0], s[1], s[2], s[3]);
        }
        return x;
    }

    private static void countOf() {
        CHECKS.sentence("The pool of a chain has the transactions that were not replaced or thrown out, and are not in the head or a block that it comes from.");
        ForkBridge x = new ForkBridge();
        for (int n = 0; n < 10; n++) {
            CHECKS.same("pool", x.pool(0), n);
            plain(x, n % 6, n / 6, 20, 0);
            CHECKS.same("pool of the other chain", x.pool(1), 0);
        }
        CHECKS.same("full", x.pool(0), 10);
        x.make(0, 0, 5, 1);
        CHECKS.same("empty", x.pool(0), 0);
    }

    private static void notInTheHead() {
        CHECKS.sentence("and are not in the head or a block that it comes from.");
        ForkBridge x = new ForkBridge();
        plain(x, 0, 0, 20, 0);
        x.make(0, 0, 5, 3);
        CHECKS.same("in the head", x.pool(0), 0);
        x.make(0, 1, 5, 1);
        CHECKS.same("in a block that it comes from", x.pool(0), 0);
        plain(x, 1, 0, 20, 0);
        x.make(0, 0, 5, 1);
        CHECKS.same("in another block alone", x.pool(0), 1);
        CHECKS.same("both are there", x.used(0, 3), 40);
        x.make(0, 3, 5, 4);
        CHECKS.same("that line is the head's now", x.head(0) * 10 + x.pool(0), 40);
        x.make(0, 2, 5, 9);
        CHECKS.same("in this one too", x.head(0) * 10 + x.pool(0), 50);
        x.make(0, 0, 5, 9);
        x.make(0, 6, 5, 9);
        CHECKS.same("in the third line too", x.head(0) * 10 + x.pool(0), 70);
    }

    /** The answer to a second transaction of the same sender and nonce. */
    private static int second(int most, int tip, int newMost, int newTip) {
        ForkBridge x = with(new int[] {0, 0, most, tip});
        int answer = plain(x, 0, 0, newMost, newTip);
        CHECKS.same("one waits", x.pool(0), 1);
        x.make(0, 0, 5, 1);
        x.make(0, 1, 5, 1);
        x.make(0, 2, 5, 1);
        int ran = x.used(0, 1) > 0 ? 1 : x.used(0, 2) > 0 ? 2 : x.used(0, 3) > 0 ? 3 : 0;
        if (ran != 0) {
            CHECKS.same("which of both is run", x.transactionAt(0, ran, 0) / 10 % 10, answer == NONE ? 0 : 1);
        }
        return answer;
    }

    private static void eachMost() {
        CHECKS.sentence(TENTH);
        for (int old = 1; old <= 90; old++) {
            int least = (11 * old + 9) / 10;
            CHECKS.same("most " + old + " and " + least, second(old, 0, least, 0), 1);
            CHECKS.same("most " + old + " and " + (least - 1), second(old, 0, least - 1, 0), NONE);
        }
        for (int old = 91; old <= 100; old++) {
            CHECKS.same("most " + old + " is replaced by none", second(old, 0, 100, 100), NONE);
        }
        CHECKS.same("11 for 10", second(10, 0, 11, 0), 1);
        CHECKS.same("99 for 90", second(90, 0, 99, 0), 1);
        CHECKS.same("98 for 90", second(90, 0, 98, 0), NONE);
        CHECKS.same("2 for 1", second(1, 0, 2, 0), 1);
    }

    private static void eachTip() {
        CHECKS.sentence("replaces these, if its most and its tip are both at least a tenth more than those of each of them");
        for (int old = 0; old <= 80; old++) {
            int least = (11 * old + 9) / 10;
            CHECKS.same("tip " + old + " and " + least, second(80, old, 100, least), 1);
            if (least > 0) {
                CHECKS.same("tip " + old + " and " + (least - 1), second(80, old, 100, least - 1), NONE);
            }
        }
        CHECKS.same("a tip of 0 stays 0", second(10, 0, 11, 0), 1);
        CHECKS.same("11 for 10", second(50, 10, 60, 11), 1);
        CHECKS.same("10 for 10", second(50, 10, 60, 10), NONE);
    }

    private static void replacing() {
        CHECKS.sentence("otherwise it is refused.");
        int[] old = {0, 0, 20, 10};
        CHECKS.same("both more", plain(with(old), 0, 0, 22, 11), 1);
        CHECKS.same("the most is not enough", plain(with(old), 0, 0, 21, 21), NONE);
        CHECKS.same("the tip is not enough", plain(with(old), 0, 0, 100, 10), NONE);
        CHECKS.same("neither is", plain(with(old), 0, 0, 20, 10), NONE);
        CHECKS.same("another sender replaces none", plain(with(old), 1, 0, 1, 0), 1);
        CHECKS.same("another nonce replaces none", plain(with(old), 0, 1, 1, 0), 1);
        CHECKS.same("the other chain is apart", with(old).submit(1, 0, 0, 0, 0, 0, 20, 1, 0), 0);
        for (int[] wrong : new int[][] {{21, 21}, {100, 10}, {20, 10}, {1, 0}}) {
            CHECKS.unchanged("a refused one", () -> with(old), x -> plain(x, 0, 0, wrong[0], wrong[1]));
        }
        ForkBridge x = with(old);
        CHECKS.same("1", plain(x, 0, 0, 30, 20), 1);
        CHECKS.same("less than a tenth more than the new one", plain(x, 0, 0, 32, 22), NONE);
        CHECKS.same("a tenth more than the new one", plain(x, 0, 0, 33, 22), 2);
        CHECKS.same("one waits", x.pool(0), 1);
        x.make(0, 0, 5, 1);
        CHECKS.same("the last one is run", x.transactionAt(0, 1, 0), 2000021);
        CHECKS.same("alone", Look.countTransactions(x, 0, 1), 1);
        x.make(0, 0, 5, 9);
        CHECKS.same("nor are the replaced ones on a fork", Look.countTransactions(x, 0, 2), 1);
        CHECKS.same("what is in the head is not replaced", plain(x, 0, 0, 1, 0), 3);
    }

    /** What is in a block of a fork alone is in the pool, and can be replaced; the block keeps it. */
    private static void replacedOnOtherForks() {
        ForkBridge x = with(new int[] {0, 0, 20, 2});
        x.make(0, 0, 5, 1);
        x.submit(0, 1, 0, 5, 1, 0, 20, 9, 0);
        CHECKS.same("in the head", plain(x, 0, 0, 9, 0), 2);
        ForkBridge y = with(new int[] {0, 0, 9, 2}, new int[] {1, 0, 20, 3});
        y.make(0, 0, 5, 1);
        y.make(0, 0, 5, 1);
        CHECKS.same("both are in both", y.used(0, 1) + y.used(0, 2), 80);
        ForkBridge z = with(new int[] {0, 0, 20, 2});
        z.make(0, 0, 5, 1);
        z.submit(0, 1, 0, 15, 0, 0, 20, 8, 0);
        z.submit(0, 0, 0, 5, 3, 0, 20, 8, 0);
        z.make(0, 0, 5, 2);
        CHECKS.same("the first one again, for it is not replaced", z.transactionAt(0, 2, 0), 2000001);
        CHECKS.same("two wait", z.pool(0), 2);
    }

    /** Two of the same sender and nonce wait, as one of them was in a head that is one no more. */
    private static ForkBridge rivals(int most, int tip, int otherMost, int otherTip) {
        ForkBridge x = new ForkBridge();
        x.step(0, ForkBridge.JUMP, 0);
        x.submit(0, 0, 0, 16, 0, 0, 20, 20, 0);
        x.make(0, 0, 5, 1);
        plain(x, 1, 0, most, tip);
        x.make(0, 1, 5, 1);
        CHECKS.same("the first is in the head", plain(x, 1, 0, otherMost, otherTip), 2);
        x.submit(0, 0, 1, 6, 0, 0, 600, 16, 16);
        x.make(0, 1, 5, 2);
        CHECKS.same("both wait behind a full block", x.pool(0), 2);
        return x;
    }

    private static void severalRivals() {
        CHECKS.sentence("Submitting one whose sender and nonce are those of some in the pool replaces these, if its most and its tip are both at least a tenth more than those of each of them");
        int[][] mosts = {{20, 5, 10, 2}, {10, 2, 20, 5}, {20, 2, 10, 5}, {10, 5, 20, 2}};
        for (int[] m : mosts) {
            CHECKS.same("more than each", plain(rivals(m[0], m[1], m[2], m[3]), 1, 0, 22, 6), 4);
            CHECKS.same("the most of one", plain(rivals(m[0], m[1], m[2], m[3]), 1, 0, 21, 20), NONE);
            CHECKS.same("the tip of one", plain(rivals(m[0], m[1], m[2], m[3]), 1, 0, 40, 5), NONE);
            CHECKS.unchanged("a refused one", () -> rivals(m[0], m[1], m[2], m[3]), x -> plain(x, 1, 0, 21, 20));
            ForkBridge x = rivals(m[0], m[1], m[2], m[3]);
            plain(x, 1, 0, 22, 6);
            CHECKS.same("both are replaced", x.pool(0), 1);
            x.make(0, 3, 5, 1);
            CHECKS.same("the new one is run", x.transactionAt(0, 4, 0), 2000041);
            CHECKS.same("alone", Look.countTransactions(x, 0, 4), 1);
            CHECKS.same("the block on the fork keeps its own", x.transactionAt(0, 2, 0), 2000011);
            CHECKS.same("and runs it anew", x.rootAnew(0, 2), x.root(0, 2));
        }
    }

    private static void claimsToo() {
        CHECKS.sentence("or it is a claim.");
        ForkBridge x = lockedOn(1);
        plain(x, 0, 0, 20, 10);
        CHECKS.same("a claim is refused", x.claim(0, 0, 0, 0, 21, 20), NONE);
        CHECKS.same("a claim is refused", x.claim(0, 0, 0, 0, 30, 10), NONE);
        CHECKS.same("a claim replaces", x.claim(0, 0, 0, 0, 22, 11), 1);
        CHECKS.same("a claim is replaced", plain(x, 0, 0, 25, 13), 2);
        CHECKS.same("one waits", x.pool(0), 1);
        x.make(0, 0, 5, 1);
        CHECKS.same("the last one is run", x.transactionAt(0, 1, 0), 2000021);
        CHECKS.same("nothing was paid by the bridge", x.coins(0, 1, 15), 20000);
    }

    /** A lock of 500, with the number 0, in a final block of the chain. */
    private static ForkBridge lockedOn(int chain) {
        ForkBridge x = new ForkBridge();
        x.submit(chain, 4, 0, 15, 500, 2, 20, 20, 0);
        x.make(chain, 0, 5, 1);
        x.make(chain, 1, 5, 1);
        for (int v = 0; v < 3; v++) {
            x.vote(chain, v, 0, 1);
            x.vote(chain, v, 1, 2);
        }
        return x;
    }

    /** So many wait, with these tips, one after the other, and then again from the first. */
    private static ForkBridge waiting(int count, int... tips) {
        ForkBridge x = new ForkBridge();
        for (int n = 0; n < count; n++) {
            CHECKS.same("number", plain(x, n % 5, n / 5, 20, tips[n % tips.length]), n);
        }
        return x;
    }

    private static void tenOrMore() {
        CHECKS.sentence("If it replaces none, and there are 10 or more in the pool, the one with the least tip, of several the one with the greatest number, is thrown out, if its tip is less than that of the new one;");
        ForkBridge nine = waiting(9, 5);
        CHECKS.same("a tenth one, with a tip of 0", plain(nine, 5, 0, 20, 0), 9);
        CHECKS.same("ten wait", nine.pool(0), 10);
        CHECKS.sentence("otherwise the new one is refused.");
        for (int tip = 0; tip <= 5; tip++) {
            int t = tip;
            CHECKS.same("an eleventh one with a tip of " + tip, plain(waiting(10, 5), 5, 0, 20, tip), NONE);
            CHECKS.unchanged("a refused one", () -> waiting(10, 5), x -> plain(x, 5, 0, 20, t));
        }
        ForkBridge ten = waiting(10, 5);
        CHECKS.same("an eleventh one with a tip of 6", plain(ten, 5, 0, 20, 6), 10);
        CHECKS.same("ten wait", ten.pool(0), 10);
        CHECKS.same("the most counts nothing", plain(waiting(10, 5), 5, 0, 100, 5), NONE);
        CHECKS.same("nor does a low most hinder", plain(waiting(10, 5), 5, 0, 6, 6), 10);
        ForkBridge zero = waiting(10, 0);
        CHECKS.same("a tip of 0 for one of 0", plain(zero, 5, 0, 20, 0), NONE);
        CHECKS.same("a tip of 1 for one of 0", plain(zero, 5, 0, 20, 1), 10);
        CHECKS.same("a greatest tip", plain(zero, 5, 1, 100, 100), 11);
    }

    /** The number of the one that was thrown out for one with this tip, or 10 if it was refused. */
    private static int thrownOut(int tip, int... tips) {
        ForkBridge x = waiting(10, tips);
        if (plain(x, 5, 0, 20, tip) == NONE) {
            return 10;
        }
        // In a block that all the nonces are fit for, it is the one that is not run, nor one of the same sender behind it.
        x.make(0, 0, 5, 1);
        boolean[] ran = new boolean[11];
        int count = Look.countTransactions(x, 0, 1);
        for (int place = 0; place < count; place++) {
            ran[x.transactionAt(0, 1, place) / 10 % 100] = true;
        }
        for (int n = 0; n < 5; n++) {
            if (!ran[n]) {
                return n;
            }
        }
        for (int n = 5; n < 10; n++) {
            if (!ran[n]) {
                return n;
            }
        }
        return -1;
    }

    private static void leastTip() {
        CHECKS.sentence("the one with the least tip, of several the one with the greatest number, is thrown out");
        for (int place = 0; place < 10; place++) {
            int[] tips = {5, 5, 5, 5, 5, 5, 5, 5, 5, 5};
            tips[place] = 4;
            CHECKS.same("the least one at " + place, thrownOut(5, tips), place);
            CHECKS.same("and refused, at " + place, thrownOut(4, tips), 10);
            tips[place] = 6;
            CHECKS.same("all but one at " + place, thrownOut(6, tips), place == 9 ? 8 : 9);
        }
        CHECKS.same("of several the greatest number", thrownOut(7, 5, 3, 9, 3, 7, 3, 5, 3, 6, 4), 7);
        CHECKS.same("of two", thrownOut(7, 3, 9, 3, 9, 9, 9, 9, 9, 9, 9), 2);
        CHECKS.same("of all", thrownOut(1, 0), 9);
    }

    /** Eleven wait, as ten were in a head that is one no more; a twelfth is taken only for one that is thrown out. */
    private static void moreThanTen() {
        CHECKS.sentence("and there are 10 or more in the pool");
        ForkBridge x = new ForkBridge();
        x.step(0, ForkBridge.JUMP, 0);
        x.submit(0, 5, 0, 16, 0, 0, 20, 20, 0);
        x.make(0, 0, 0, 1);
        for (int n = 0; n < 10; n++) {
            plain(x, n % 5, n / 5, 20, 3);
        }
        x.make(0, 1, 0, 1);
        CHECKS.same("all ten are run", x.used(0, 2), 200);
        x.submit(0, 5, 1, 13, 0, 0, 600, 16, 16);
        plain(x, 5, 5, 20, 4);
        x.make(0, 1, 0, 2);
        CHECKS.same("the new head has no room for more", x.used(0, 3), 600);
        CHECKS.same("eleven wait", x.pool(0), 11);
        CHECKS.same("the least tip is refused", plain(x, 5, 6, 20, 3), NONE);
        CHECKS.same("eleven wait", x.pool(0), 11);
        CHECKS.same("one is thrown out for a greater one", plain(x, 5, 6, 20, 4), 13);
        CHECKS.same("just one: eleven wait", x.pool(0), 11);
        CHECKS.same("one that replaces", plain(x, 5, 6, 22, 5), 14);
        CHECKS.same("throws none out besides", x.pool(0), 11);
    }

    private static void replacingInAFullPool() {
        CHECKS.sentence("If it replaces none, and there are 10 or more in the pool");
        ForkBridge x = waiting(10, 5, 0);
        CHECKS.same("one that replaces throws none out", plain(x, 0, 0, 22, 6), 10);
        CHECKS.same("ten wait", x.pool(0), 10);
        CHECKS.same("one that may not replace is refused, though its tip is not the least", plain(x, 1, 0, 21, 5), NONE);
        CHECKS.same("ten wait", x.pool(0), 10);
        x.make(0, 0, 5, 1);
        CHECKS.same("all ten are run", Look.countTransactions(x, 0, 1), 10);
    }

    private static void refusedHasNoNumber() {
        CHECKS.sentence("A refused one has no number.");
        ForkBridge x = waiting(10, 5);
        for (int n = 0; n < 3; n++) {
            CHECKS.same("refused", plain(x, 5, 0, 20, 5), NONE);
            CHECKS.same("refused", plain(x, 0, 0, 20, 5), NONE);
        }
        CHECKS.same("the next number", plain(x, 5, 0, 20, 6), 10);
        for (int n = 11; n < 19; n++) {
            CHECKS.same("refused", plain(x, 5, 9, 20, 0), NONE);
            CHECKS.same("the next number", plain(x, 5, n - 10, 100, n + 30), n);
        }
    }

    /** A claim that is refused leaves nothing to the next transaction, which gets the number that it would have had. */
    private static void refusedClaimLeavesNothing() {
        ForkBridge x = lockedOn(1);
        plain(x, 0, 0, 20, 10);
        CHECKS.same("refused", x.claim(0, 0, 0, 0, 20, 10), NONE);
        CHECKS.same("the next number", x.submit(0, 1, 0, 3, 70, 0, 20, 20, 0), 1);
        x.make(0, 0, 5, 1);
        CHECKS.same("it is no claim", x.coins(0, 1, 3), 10070);
        CHECKS.same("the bridge pays nothing", x.coins(0, 1, 15), 20000);
        CHECKS.same("well", x.transactionAt(0, 1, 1), 2000011);
    }
}
