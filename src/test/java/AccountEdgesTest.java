/** Promise 1 and the terms on accounts and states: the first and the last account, slot, person and contract, and what is empty. */
public final class AccountEdgesTest {
    private static final Checks CHECKS = new Checks("AccountEdgesTest");
    private static final int PUSH = ForkBridge.PUSH;
    private static final int WRITE = ForkBridge.WRITE;

    public static void main(String[] args) {
        firstState();
        newObject();
        people();
        contracts();
        bridge();
        slots();
        burnedAndPaid();
        noCoinIsLost();
        sameBlocksSameRoot();
        CHECKS.end();
    }

    private static void firstState() {
        CHECKS.sentence("In the first state of a chain people have 10000 coins each, the bridge 20000, all else is 0 or none.");
        for (int chain = 0; chain < 2; chain++) {
            ForkBridge x = new ForkBridge();
            for (int account = 0; account < 16; account++) {
                CHECKS.same("coins of " + account, x.coins(chain, 0, account), account <= 5 ? 10000 : account == 15 ? 20000 : 0);
                CHECKS.same("nonce and program of " + account, x.codeOf(chain, 0, account), 0);
                for (int slot = 0; slot < 4; slot++) {
                    CHECKS.same("slot " + slot + " of " + account, x.slot(chain, 0, account, slot), 0);
                }
            }
            CHECKS.same("burned", x.burned(chain, 0), 0);
        }
    }

    private static void newObject() {
        CHECKS.sentence("Both chains with their first blocks, the upgrade at the height 1000 on each; programs without steps.");
        for (int chain = 0; chain < 2; chain++) {
            ForkBridge x = new ForkBridge();
            int c = chain;
            CHECKS.same("one block", Look.countBlocks(x, chain), 1);
            CHECKS.throwing("a block 1", Checks.NO_INDEX, () -> x.root(c, 1));
            CHECKS.same("no transaction in it", Look.countTransactions(x, chain, 0), 0);
            CHECKS.same("no event in it", Look.countEvents(x, chain, 0), 0);
            CHECKS.same("bloom", x.bloom(chain, 0), 0);
            CHECKS.same("used", x.used(chain, 0), 0);
            CHECKS.same("base", x.base(chain, 0), 10);
            CHECKS.same("head", x.head(chain), 0);
            CHECKS.same("pool", x.pool(chain), 0);
            CHECKS.same("last final", x.lastFinal(chain), 0);
            CHECKS.yes("justified", x.isJustified(chain, 0));
            for (int topic = 0; topic < 16; topic++) {
                CHECKS.same("events with " + topic, x.find(chain, topic), 0);
            }
            for (int validator = 0; validator < 4; validator++) {
                CHECKS.same("stake of " + validator, x.stake(chain, validator), 100);
            }
            CHECKS.throwing("a lock 0", Checks.NO_INDEX, () -> x.claim(1 - c, 0, 0, 0, 20, 0));
            CHECKS.same("nothing to drop", x.prune(chain), 0);
            CHECKS.same("the upgrade", x.upgrade(chain, 1), 1000);
        }
        ForkBridge x = new ForkBridge();
        for (int program = 0; program < 8; program++) {
            CHECKS.same("the first step of " + program, x.step(program, PUSH, 0), 1);
        }
        String fresh = Look.all(new ForkBridge());
        ForkBridge y = new ForkBridge();
        y.step(0, PUSH, 0);
        y.submit(0, 0, 0, 0, 0, 0, 20, 20, 0);
        y.make(1, 0, 0, 1);
        CHECKS.same("another object is apart", Look.all(new ForkBridge()), fresh);
        CHECKS.same("its programs too", new ForkBridge().step(0, PUSH, 0), 1);
    }

    private static void people() {
        CHECKS.sentence("Each state of a chain has the accounts 0 to 15: 0 to 5 are people, 6 to 14 can become contracts, 15 is the bridge.");
        for (int person = 0; person < 6; person++) {
            ForkBridge x = new ForkBridge();
            int p = person;
            CHECKS.same("a person sends", x.submit(0, person, 0, 14, 5, 0, 20, 20, 0), 0);
            CHECKS.same("a person makes a block", x.make(0, 0, person, 1), 1);
            CHECKS.same("what was sent", x.coins(0, 1, 14), 5);
            CHECKS.throwing("account 6 sends", Checks.NO_INDEX, () -> x.submit(0, p + 6, 0, 14, 5, 0, 20, 20, 0));
            CHECKS.throwing("account 6 makes a block", Checks.NO_INDEX, () -> x.make(0, 0, p + 6, 1));
        }
        for (int target = 0; target < 16; target++) {
            ForkBridge x = new ForkBridge();
            x.submit(0, target == 0 ? 1 : 0, 0, target, 7, 0, 20, 20, 0);
            x.make(0, 0, target == 5 ? 4 : 5, 1);
            CHECKS.same("value to " + target, x.coins(0, 1, target) - x.coins(0, 0, target), 7);
            CHECKS.same("a value makes no contract of " + target, x.codeOf(0, 1, target), 0);
        }
    }

    /** Nine contracts, and no more: the persons 0, 1, 2, 3, 4 and 5 at their nonces 0 to 2 come to all addresses. */
    private static void contracts() {
        CHECKS.sentence("6 to 14 can become contracts");
        ForkBridge x = new ForkBridge();
        int number = 0;
        for (int nonce = 0; nonce < 3; nonce++) {
            for (int person = 0; person < 3; person++) {
                x.submit(0, person, nonce, 16 + nonce, 0, 0, 20, 20, 0);
                number++;
            }
        }
        x.make(0, 0, 5, 1);
        CHECKS.same("all are run", Look.countTransactions(x, 0, 1), number);
        for (int account = 0; account < 16; account++) {
            boolean made = account >= 6 && account <= 14;
            CHECKS.yes("contract at " + account, x.codeOf(0, 1, account) % 10 != 0 == made);
        }
        for (int person = 0; person < 6; person++) {
            x.submit(0, person, person < 3 ? 3 : 0, 16, 9, 0, 20, 20, 0);
        }
        x.make(0, 1, 5, 1);
        for (int place = 0; place < 6; place++) {
            CHECKS.same("no address is free any more", x.transactionAt(0, 2, place) % 10, 0);
        }
    }

    private static void bridge() {
        CHECKS.sentence("15 is the bridge");
        ForkBridge x = new ForkBridge();
        x.submit(0, 0, 0, 15, 5, 0, 20, 20, 0);
        x.submit(0, 1, 0, 14, 5, 0, 20, 20, 0);
        x.make(0, 0, 5, 1);
        x.make(0, 1, 5, 1);
        for (int v = 0; v < 3; v++) {
            x.vote(0, v, 0, 1);
            x.vote(0, v, 1, 2);
        }
        CHECKS.same("coins in it", x.coins(0, 1, 15), 20005);
        CHECKS.same("a lock", x.claim(1, 0, 0, 0, 20, 0), 0);
        CHECKS.throwing("the account 14 is not the bridge", Checks.NO_ARGUMENT, () -> x.claim(1, 0, 1, 1, 20, 0));
    }

    private static void slots() {
        CHECKS.sentence("An account has coins, a nonce, a program or none, and four slots, 0 to 3, with numbers from 0 to 999999.");
        for (int slot = 0; slot < 4; slot++) {
            Lab lab = Lab.of(PUSH, 0, PUSH, 1, ForkBridge.SUB, 0, WRITE, slot);
            for (int other = 0; other < 4; other++) {
                CHECKS.same("slot " + other + " behind a write to " + slot, lab.slot(other), other == slot ? 999999 : 0);
            }
            Lab least = Lab.of(PUSH, 1, WRITE, slot, PUSH, 0, WRITE, slot);
            CHECKS.same("the least number", least.slot(slot), 0);
        }
        Lab all = Lab.of(PUSH, 1, WRITE, 0, PUSH, 2, WRITE, 1, PUSH, 3, WRITE, 2, PUSH, 4, WRITE, 3);
        for (int account = 0; account < 16; account++) {
            for (int slot = 0; slot < 4; slot++) {
                CHECKS.same("slot " + slot + " of " + account, all.x.slot(0, 1, account, slot), account == 6 ? slot + 1 : 0);
            }
        }
    }

    private static void burnedAndPaid() {
        CHECKS.sentence("A state also tells how many coins were burned, and which locks were paid.");
        ForkBridge x = new ForkBridge();
        x.make(0, 0, 5, 1);
        CHECKS.same("none burned without transactions", x.burned(0, 1), 0);
        x.submit(0, 0, 0, 1, 0, 0, 20, 20, 0);
        x.make(0, 1, 5, 1);
        x.submit(0, 0, 1, 1, 0, 0, 20, 20, 0);
        x.make(0, 2, 5, 1);
        CHECKS.same("20 gas", x.burned(0, 2), 20 * x.base(0, 2));
        CHECKS.same("and 20 more", x.burned(0, 3), 20 * x.base(0, 2) + 20 * x.base(0, 3));
        x.make(0, 1, 5, 1);
        CHECKS.same("a fork burns for itself", x.burned(0, 4), 40 * x.base(0, 4));
    }

    private static void noCoinIsLost() {
        CHECKS.sentence("Whoever runs the same blocks has the same root, and no coin is made or lost but as told.");
        Lab lab = new Lab().program(0, PUSH, 9, PUSH, 20, PUSH, 0, ForkBridge.CALL, 0, PUSH, 30, ForkBridge.MAKE, 2)
            .program(1, PUSH, 9, ForkBridge.END, 0);
        ForkBridge x = lab.x;
        x.submit(0, 0, 0, 16, 100, 0, 20, 20, 1);
        x.submit(0, 0, 1, 17, 60, 0, 20, 20, 2);
        x.submit(0, 1, 0, 6, 7, 0, 500, 16, 0);
        x.submit(0, 2, 0, 3, 999, 0, 20, 15, 6);
        x.make(0, 0, 5, 1);
        x.make(0, 1, 2, 1);
        x.submit(0, 1, 1, 6, 7, 0, 500, 16, 0);
        x.make(0, 2, 1, 1);
        x.make(0, 1, 3, 1);
        CHECKS.same("the account 9 ended: 80 were burned besides", x.burned(0, 1), 80 + 9 * x.used(0, 1));
        for (int block = 0; block < 5; block++) {
            int sum = x.burned(0, block);
            for (int account = 0; account < 16; account++) {
                sum += x.coins(0, block, account);
            }
            CHECKS.same("coins and burned ones up to " + block, sum, 80000);
        }
    }

    private static ForkBridge some(int first) {
        ForkBridge x = new ForkBridge();
        x.submit(first, 0, 0, 1, 100, 0, 20, 20, 3);
        x.submit(first, 2, 0, 3, 100, 0, 20, 20, 3);
        x.make(first, 0, 4, 1 + first);
        x.make(first, 1, 4, 9 - first);
        return x;
    }

    private static void sameBlocksSameRoot() {
        CHECKS.sentence("Whoever runs the same blocks has the same root");
        ForkBridge x = some(0);
        ForkBridge y = some(1);
        for (int block = 0; block < 3; block++) {
            CHECKS.same("on either chain, with other weights, " + block, x.root(0, block), y.root(1, block));
            CHECKS.same("anew, " + block, x.rootAnew(0, block), y.root(1, block));
        }
        CHECKS.no("another state, another root", x.root(0, 0) == x.root(0, 1));
    }
}
