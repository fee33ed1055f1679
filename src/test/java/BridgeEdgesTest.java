/** Promise 5 and the bridge: what is a lock, for whom, when it can be claimed, and that it is paid once and no more. */
public final class BridgeEdgesTest {
    private static final Checks CHECKS = new Checks("BridgeEdgesTest");

    public static void main(String[] args) {
        values();
        accounts();
        people();
        coinsLieInTheBridge();
        finalBlocks();
        finalOfOneLine();
        otherChain();
        noOtherLocks();
        enoughCoins();
        claimsCost();
        gasTimesMost();
        eachLockOnce();
        locksApart();
        onceInEachLine();
        replacedLocks();
        CHECKS.end();
    }

    private static void finalise(ForkBridge x, int chain, int source, int block, int child) {
        for (int v = 0; v < 3; v++) {
            x.vote(chain, v, source, block);
            x.vote(chain, v, block, child);
        }
    }

    /** A transaction of person 0 with this target, value and input, in the final block 1 of the chain. */
    private static ForkBridge locked(int chain, int target, int value, int input) {
        ForkBridge x = new ForkBridge();
        x.submit(chain, 0, 0, target, value, input, 20, 20, 0);
        x.make(chain, 0, 5, 1);
        x.make(chain, 1, 5, 1);
        finalise(x, chain, 0, 1, 2);
        return x;
    }

    private static void values() {
        CHECKS.sentence("A transaction to the account 15 with a value above 0 is a lock of that value, for the person whose number is the input modulo 6;");
        for (int value : new int[] {1, 2, 500, 9599, 9600}) {
            ForkBridge x = locked(0, 15, value, 4);
            CHECKS.same("a lock of " + value, x.claim(1, 1, 0, 0, 20, 0), 0);
            x.make(1, 0, 5, 1);
            CHECKS.same("the person gets " + value, x.coins(1, 1, 4), 10000 + value);
            CHECKS.same("from the bridge", x.coins(1, 1, 15), 20000 - value);
        }
        ForkBridge greatest = new ForkBridge();
        greatest.submit(0, 1, 0, 0, 5000, 0, 20, 20, 1);
        greatest.submit(0, 0, 0, 15, 10000, 4, 20, 20, 0);
        greatest.make(0, 0, 5, 1);
        greatest.make(0, 1, 5, 1);
        finalise(greatest, 0, 0, 1, 2);
        greatest.claim(1, 1, 0, 1, 20, 0);
        greatest.make(1, 0, 5, 1);
        CHECKS.same("the greatest value", greatest.coins(1, 1, 4), 20000);
        CHECKS.refused(() -> locked(0, 15, 0, 4), "a value of 0 is no lock", Checks.NO_ARGUMENT, x -> x.claim(1, 1, 0, 0, 20, 0));
    }

    private static void accounts() {
        CHECKS.sentence("A transaction to the account 15");
        for (int target = 0; target < 24; target++) {
            int t = target;
            if (target == 15) {
                CHECKS.same("a lock", locked(0, 15, 7, 4).claim(1, 1, 0, 0, 20, 0), 0);
            } else {
                CHECKS.refused(() -> locked(0, t, 7, 4), "no lock to " + t, Checks.NO_ARGUMENT, x -> x.claim(1, 1, 0, 0, 20, 0));
            }
        }
    }

    private static void people() {
        CHECKS.sentence("for the person whose number is the input modulo 6;");
        int[] inputs = {0, 1, 5, 6, 7, 11, 12, 9994, 9995, 9996, 9998, 9999};
        for (int input : inputs) {
            ForkBridge x = locked(0, 15, 100, input);
            int sender = input % 6 == 2 ? 3 : 2;
            x.claim(1, sender, 0, 0, 20, 0);
            x.make(1, 0, input % 6 == 5 ? 4 : 5, 1);
            for (int person = 0; person < 6; person++) {
                int due = 10000 + (person == input % 6 ? 100 : 0) - (person == sender ? 20 * 9 : 0);
                CHECKS.same("coins of " + person + " behind a lock with the input " + input, x.coins(1, 1, person), due);
            }
        }
        ForkBridge own = locked(0, 15, 100, 2);
        own.claim(1, 2, 0, 0, 20, 0);
        own.make(1, 0, 5, 1);
        CHECKS.same("a person claims for itself", own.coins(1, 1, 2), 10100 - 180);
    }

    private static void coinsLieInTheBridge() {
        CHECKS.sentence("its coins lie in the bridge.");
        ForkBridge x = locked(0, 15, 100, 2);
        CHECKS.same("in the block", x.coins(0, 1, 15), 20100);
        CHECKS.same("not ahead of it", x.coins(0, 0, 15), 20000);
        x.claim(1, 1, 0, 0, 20, 0);
        x.make(1, 0, 5, 1);
        CHECKS.same("and stay there when the other bridge pays", x.coins(0, 2, 15), 20100);
    }

    private static void finalBlocks() {
        CHECKS.sentence("A claim on the other chain names a lock;");
        CHECKS.sentence("it can be submitted if the lock is in the last final block of its chain, or a block that this comes from.");
        // Locks in the blocks 1 to 4 of a line, of which 2 becomes final, and then 3.
        ForkBridge x = new ForkBridge();
        for (int n = 0; n < 4; n++) {
            x.submit(0, 0, n, 15, 10 + n, 3, 20, 20, 0);
            x.make(0, n, 5, 1);
        }
        x.submit(0, 0, 4, 15, 5, 3, 20, 20, 0);
        for (int n = 0; n <= 4; n++) {
            int lock = n;
            CHECKS.refused(x, "none is final, lock " + n, Checks.NO_STATE, () -> x.claim(1, 0, 0, lock, 20, 0));
        }
        finalise(x, 0, 0, 2, 3);
        CHECKS.same("final", x.lastFinal(0), 2);
        CHECKS.same("in the last final block", x.claim(1, 0, 0, 1, 20, 0), 0);
        CHECKS.same("in the block ahead of it", x.claim(1, 1, 0, 0, 20, 0), 1);
        for (int n = 2; n <= 4; n++) {
            int lock = n;
            CHECKS.refused(x, "justified, or less", Checks.NO_STATE, () -> x.claim(1, 2, 0, lock, 20, 0));
        }
        finalise(x, 0, 2, 3, 4);
        CHECKS.same("now final", x.claim(1, 2, 0, 2, 20, 0), 2);
        CHECKS.same("as before", x.claim(1, 3, 0, 0, 20, 0), 3);
        CHECKS.refused(x, "not final", Checks.NO_STATE, () -> x.claim(1, 4, 0, 3, 20, 0));
        CHECKS.refused(x, "in no block", Checks.NO_STATE, () -> x.claim(1, 4, 0, 4, 20, 0));
        CHECKS.throwing("no such lock", Checks.NO_INDEX, () -> x.claim(1, 4, 0, 5, 20, 0));
        CHECKS.same("states that are dropped", x.prune(0), 3);
        CHECKS.same("do not matter", x.claim(1, 4, 0, 0, 20, 0), 4);
    }

    private static void finalOfOneLine() {
        CHECKS.sentence("it can be submitted if the lock is in the last final block of its chain, or a block that this comes from.");
        // The lock 0 is in the blocks 1 and 3; only the line of 2 and 4 becomes final, where person 0 has locked another value.
        ForkBridge x = new ForkBridge();
        x.submit(0, 0, 0, 15, 500, 3, 20, 20, 0);
        x.make(0, 0, 5, 1);
        x.submit(0, 0, 0, 15, 600, 3, 20, 30, 5);
        x.make(0, 0, 5, 1);
        CHECKS.same("the dearer one in the block 2", x.transactionAt(0, 2, 0), 2000011);
        x.make(0, 1, 5, 5);
        x.make(0, 2, 5, 1);
        finalise(x, 0, 0, 2, 4);
        CHECKS.same("final", x.lastFinal(0), 2);
        CHECKS.refused(x, "a lock of a lost line", Checks.NO_STATE, () -> x.claim(1, 0, 0, 0, 20, 0));
        CHECKS.same("a lock of the final line", x.claim(1, 0, 0, 1, 20, 0), 0);
        x.make(1, 0, 5, 1);
        CHECKS.same("its value", x.coins(1, 1, 3), 10600);
    }

    private static void otherChain() {
        CHECKS.sentence("`chain`: the chain on which the bridge is to pay, 0 or 1");
        for (int chain = 0; chain < 2; chain++) {
            ForkBridge x = locked(chain, 15, 100, 3);
            int c = chain;
            CHECKS.throwing("on its own chain", Checks.NO_INDEX, () -> x.claim(c, 0, 0, 0, 20, 0));
            CHECKS.same("on the other chain", x.claim(1 - chain, 0, 0, 0, 20, 0), 0);
            CHECKS.throwing("that claim is no lock", Checks.NO_ARGUMENT, () -> x.claim(c, 0, 1, 0, 20, 0));
            x.make(1 - chain, 0, 5, 1);
            CHECKS.same("paid there", x.coins(1 - chain, 1, 3), 10100);
            CHECKS.same("not here", x.coins(chain, 1, 3), 10000);
        }
    }

    private static void noOtherLocks() {
        CHECKS.sentence("or the transaction is no lock");
        ForkBridge x = new ForkBridge();
        x.submit(0, 0, 0, 15, 0, 3, 20, 20, 0);
        CHECKS.refused(x, "no lock, and not final", Checks.NO_ARGUMENT, () -> x.claim(1, 0, 0, 0, 20, 0));
        CHECKS.refused(x, "no lock, and the nonce 10", Checks.NO_ARGUMENT, () -> x.claim(1, 0, 10, 0, 20, 0));
        CHECKS.refused(x, "no transaction, and the nonce 10", Checks.NO_INDEX, () -> x.claim(1, 0, 10, 1, 20, 0));
    }

    /** Three locks of 6000 and one of the rest of 20000, and of one more or less, are paid as long as there are coins. */
    private static void enoughCoins() {
        CHECKS.sentence("it ends badly if that lock is paid in the state, or the bridge has fewer coins than its value;");
        for (int last = 1999; last <= 2001; last++) {
            ForkBridge x = new ForkBridge();
            for (int person = 0; person < 4; person++) {
                x.submit(0, person, 0, 15, person < 3 ? 6000 : last, 5, 20, 20, 0);
            }
            x.make(0, 0, 5, 1);
            x.make(0, 1, 5, 1);
            finalise(x, 0, 0, 1, 2);
            for (int lock = 0; lock < 4; lock++) {
                x.claim(1, lock, 0, lock, 20, 4 - lock);
            }
            x.make(1, 0, 4, 1);
            CHECKS.same("the lock of " + last, x.transactionAt(1, 1, 3) % 10, last <= 2000 ? 1 : 0);
            CHECKS.same("what is left", x.coins(1, 1, 15), last <= 2000 ? 2000 - last : 2000);
            CHECKS.same("the person", x.coins(1, 1, 5), 28000 + (last <= 2000 ? last : 0));
            x.submit(1, 4, 0, 15, 1, 0, 20, 20, 5);
            x.claim(1, 0, 1, 3, 20, 0);
            x.make(1, 1, 4, 1);
            CHECKS.sentence("otherwise the bridge pays the person, and the lock is paid.");
            CHECKS.same("again, with one coin more in the bridge", x.transactionAt(1, 2, 1) % 10, last <= 2000 ? 0 : 1);
            CHECKS.same("what is left", x.coins(1, 2, 15), last <= 2000 ? 2001 - last : 0);
        }
    }

    private static void claimsCost() {
        CHECKS.sentence("When the claim is run, its target is the bridge, its value 0, and no program runs:");
        ForkBridge x = locked(0, 15, 100, 3);
        x.claim(1, 1, 0, 0, 20, 2);
        x.claim(1, 2, 0, 0, 20, 1);
        x.make(1, 0, 5, 1);
        CHECKS.same("20 gas when it pays", x.transactionAt(1, 1, 0), 2000001);
        CHECKS.same("20 gas when it does not", x.transactionAt(1, 1, 1), 2000010);
        CHECKS.same("the sender of the first", x.coins(1, 1, 1), 10000 - 20 * 11);
        CHECKS.same("the sender of the second", x.coins(1, 1, 2), 10000 - 20 * 10);
        CHECKS.same("their nonces", x.codeOf(1, 1, 1) + x.codeOf(1, 1, 2), 20);
        CHECKS.same("the producer", x.coins(1, 1, 5), 10000 + 20 * 3);
        CHECKS.same("burned", x.burned(1, 1), 40 * 9);
        CHECKS.same("no events", Look.countEvents(x, 1, 1), 0);
    }

    /** A claim has 60 gas and no value: the sender must have 60 times its most, and no coin more. */
    private static void gasTimesMost() {
        CHECKS.sentence("Submits a claim, with 60 gas.");
        for (int less = -1; less <= 1; less++) {
            ForkBridge x = locked(0, 15, 100, 3);
            x.submit(1, 1, 0, 2, 10000 - 20 * 9 - 60 * 50 + less, 0, 20, 9, 0);
            x.claim(1, 1, 1, 0, 50, 0);
            x.make(1, 0, 5, 1);
            CHECKS.same("with " + (60 * 50 - less) + " coins", x.used(1, 1), less <= 0 ? 40 : 20);
        }
        for (int most : new int[] {1, 6, 7, 8, 9}) {
            ForkBridge x = locked(0, 15, 100, 3);
            x.claim(1, 1, 0, 0, most, most);
            x.make(1, 0, 5, 1);
            CHECKS.same("its most is at least the base, " + most, x.used(1, 1), most >= 9 ? 20 : 0);
        }
    }

    /** Forty locks of 1, with the numbers 0 to 39, for the person 3: all in the final block 4. */
    private static ForkBridge forty() {
        ForkBridge x = new ForkBridge();
        for (int n = 0; n < 40; n++) {
            x.submit(0, n % 6, n / 6, 15, 1 + n, 3, 20, 20, 0);
            if (n % 10 == 9) {
                x.make(0, n / 10, 5, 1);
            }
        }
        x.make(0, 4, 5, 1);
        finalise(x, 0, 0, 4, 5);
        return x;
    }

    private static void eachLockOnce() {
        CHECKS.sentence("it ends badly if that lock is paid in the state");
        for (int lock = 0; lock < 40; lock++) {
            ForkBridge x = forty();
            int other = (lock + 32) % 40;
            x.claim(1, 0, 0, lock, 20, 5);
            x.claim(1, 1, 0, lock, 20, 4);
            x.claim(1, 2, 0, other, 20, 3);
            x.claim(1, 4, 0, lock, 20, 2);
            x.make(1, 0, 5, 1);
            CHECKS.same("the lock " + lock, x.transactionAt(1, 1, 0), 2000001);
            CHECKS.same("the lock " + lock + " again", x.transactionAt(1, 1, 1), 2000010);
            CHECKS.same("the lock " + other, x.transactionAt(1, 1, 2), 2000021);
            CHECKS.same("the lock " + lock + " behind that", x.transactionAt(1, 1, 3), 2000030);
            CHECKS.same("the person", x.coins(1, 1, 3), 10000 + 1 + lock + 1 + other);
            x.claim(1, 0, 1, lock, 20, 5);
            x.claim(1, 1, 1, other, 20, 4);
            x.make(1, 1, 5, 1);
            CHECKS.same("in the next block", x.transactionAt(1, 2, 0) % 100 + x.transactionAt(1, 2, 1) % 100, 90);
            CHECKS.same("the person", x.coins(1, 2, 3), 10000 + 1 + lock + 1 + other);
            CHECKS.same("anew", x.rootAnew(1, 2), x.root(1, 2));
        }
    }

    private static void locksApart() {
        CHECKS.sentence("and the lock is paid.");
        ForkBridge x = forty();
        for (int n = 0; n < 40; n++) {
            x.claim(1, n % 6, n / 6, n, 20, 0);
            if (n % 10 == 9) {
                x.make(1, n / 10, 5, 1);
            }
        }
        for (int place = 0; place < 10; place++) {
            CHECKS.same("each is paid", x.transactionAt(1, 4, place) % 10 + x.transactionAt(1, 1, place) % 10, 2);
        }
        CHECKS.same("all are paid: 1 to 40", x.coins(1, 4, 15), 20000 - 820);
        ForkBridge both = new ForkBridge();
        for (int chain = 0; chain < 2; chain++) {
            both.submit(chain, 0, 0, 15, 100, 3, 20, 20, 0);
            both.make(chain, 0, 5, 1);
            both.make(chain, 1, 5, 1);
            finalise(both, chain, 0, 1, 2);
        }
        for (int chain = 0; chain < 2; chain++) {
            both.claim(chain, 1, 0, 0, 20, 0);
            both.make(chain, 2, 5, 1);
            CHECKS.same("locks of the same number on either chain", both.transactionAt(chain, 3, 0), 2000011);
            CHECKS.same("each is paid on the other one", both.coins(chain, 3, 3), 10100);
        }
    }

    private static void onceInEachLine() {
        CHECKS.sentence("and a bridge that never pays twice, whatever forks there were.");
        ForkBridge x = locked(0, 15, 100, 3);
        x.claim(1, 0, 0, 0, 20, 0);
        x.make(1, 0, 5, 1);
        x.make(1, 0, 5, 2);
        x.claim(1, 1, 0, 0, 20, 0);
        for (int parent = 1; parent <= 2; parent++) {
            int block = x.make(1, parent, 5, 1);
            CHECKS.same("a second claim in the line of " + parent, x.transactionAt(1, block, 0), 2000010);
            CHECKS.same("once", x.coins(1, block, 3), 10100);
        }
        int block = x.make(1, 0, 5, 9);
        CHECKS.same("both in one block: the first pays", x.transactionAt(1, block, 0) * 10 + x.transactionAt(1, block, 1) % 100, 20000010 + 10);
        CHECKS.same("once", x.coins(1, block, 3), 10100);
        x.make(0, 2, 5, 1);
        finalise(x, 0, 1, 2, 3);
        x.claim(1, 2, 0, 0, 20, 0);
        block = x.make(1, block, 5, 1);
        CHECKS.same("when more is final there", x.transactionAt(1, block, 0), 2000020);
        CHECKS.same("once", x.coins(1, block, 3), 10100);
    }

    /** A lock that was replaced in the pool is in a block all the same, and can be claimed when that is final. */
    private static void replacedLocks() {
        CHECKS.sentence("it can be submitted if the lock is in the last final block of its chain");
        ForkBridge x = new ForkBridge();
        x.submit(0, 0, 0, 15, 100, 3, 20, 20, 0);
        x.make(0, 0, 5, 1);
        x.make(0, 0, 5, 2);
        x.submit(0, 1, 0, 1, 0, 0, 20, 20, 0);
        CHECKS.same("in the head, which holds it too", x.pool(0), 1);
        ForkBridge y = new ForkBridge();
        y.step(0, ForkBridge.JUMP, 0);
        y.submit(0, 1, 0, 16, 0, 0, 20, 20, 0);
        y.make(0, 0, 5, 1);
        y.submit(0, 0, 0, 15, 100, 3, 20, 20, 0);
        y.make(0, 1, 5, 1);
        y.submit(0, 1, 1, 11, 0, 0, 600, 16, 9);
        y.make(0, 1, 5, 2);
        CHECKS.same("waits behind the new head", y.pool(0), 1);
        CHECKS.same("replaced", y.submit(0, 0, 0, 1, 0, 0, 20, 30, 9), 3);
        y.make(0, 2, 5, 1);
        finalise(y, 0, 0, 2, 4);
        CHECKS.same("final with the replaced one", y.lastFinal(0), 2);
        CHECKS.same("it can be claimed", y.claim(1, 2, 0, 1, 20, 0), 0);
        y.make(1, 0, 5, 1);
        CHECKS.same("and is paid", y.coins(1, 1, 3), 10100);
    }
}
