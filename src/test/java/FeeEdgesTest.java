/** Transactions: which are fit, what they cost, and who is paid. */
public final class FeeEdgesTest {
    private static final Checks CHECKS = new Checks("FeeEdgesTest");
    private static final String FIT = "It is fit for a state and a base, if the sender's nonce there is its nonce, the sender has the value and its gas times its most, and its most is at least the base.";
    /** The base of the block 1. */
    private static final int BASE = 9;

    public static void main(String[] args) {
        targets();
        numbers();
        nonces();
        enoughCoins();
        coinsAtEachGas();
        mostAndBase();
        prices();
        payers();
        nonceInAnyCase();
        paidAhead();
        valueAndRest();
        valueIsBack();
        gasPaidBack();
        CHECKS.end();
    }

    private static void targets() {
        CHECKS.sentence("Targets are accounts, 0 to 15, or 16 and a program, for which a contract is made;");
        for (int target = 0; target < 24; target++) {
            ForkBridge x = new ForkBridge();
            x.submit(0, 0, 0, target, 3, 0, 20, 20, 0);
            x.make(0, 0, 5, 1);
            CHECKS.same("well", x.transactionAt(0, 1, 0), 2000001);
            int sent = target < 16 ? target : 6;
            CHECKS.same("coins of " + sent, x.coins(0, 1, sent), x.coins(0, 0, sent) + 3 - (sent == 0 ? 3 + 180 : 0));
            for (int account = 6; account < 15; account++) {
                CHECKS.same("program of " + account, x.codeOf(0, 1, account), target >= 16 && account == 6 ? 10 + target - 15 : 0);
            }
        }
    }

    private static void numbers() {
        CHECKS.sentence("Transactions of a chain are numbered from 0, at most 40.");
        ForkBridge x = new ForkBridge();
        for (int n = 0; n < 40; n++) {
            CHECKS.same("number", x.submit(0, n % 6, n / 6, 0, 0, 0, 20, 100, 10 + n), n);
            if (n % 10 == 9) {
                CHECKS.same("block", x.make(0, n / 10, 5, 1), n / 10 + 1);
            }
        }
        boolean found = false;
        for (int place = 0; place < 10; place++) {
            found |= x.transactionAt(0, 4, place) == 2000000 + 10 * 39 + 1;
        }
        CHECKS.yes("the last number is told of a block", found);
        CHECKS.throwing("a 41st", Checks.NO_STATE, () -> x.submit(0, 5, 9, 0, 0, 0, 20, 100, 100));
        CHECKS.same("the other chain numbers for itself", x.submit(1, 5, 9, 0, 0, 0, 20, 100, 100), 0);
    }

    private static void nonces() {
        CHECKS.sentence(FIT);
        for (int had = 0; had < 3; had++) {
            for (int nonce = 0; nonce < 5; nonce++) {
                ForkBridge x = new ForkBridge();
                for (int n = 0; n < had; n++) {
                    x.submit(0, 0, n, 1, 0, 0, 20, 20, 0);
                }
                x.make(0, 0, 5, 1);
                x.submit(0, 0, nonce, 1, 0, 0, 20, 20, 0);
                x.make(0, 1, 5, 1);
                CHECKS.same("nonce " + nonce + " where it is " + had, x.used(0, 2), nonce == had ? 20 : 0);
                CHECKS.same("what is not fit waits", x.pool(0), nonce == had ? 0 : 1);
            }
        }
        ForkBridge x = new ForkBridge();
        for (int nonce = 9; nonce >= 0; nonce--) {
            x.submit(0, 0, nonce, 1, 0, 0, 20, 20, nonce);
        }
        x.make(0, 0, 5, 1);
        CHECKS.same("the nonces 0 to 9, in turn, in one block", Look.countTransactions(x, 0, 1), 10);
        CHECKS.same("the first", x.transactionAt(0, 1, 0) / 10 % 100, 9);
        CHECKS.same("the last", x.transactionAt(0, 1, 9) / 10 % 100, 0);
        CHECKS.same("the nonce is 10", x.codeOf(0, 1, 0), 100);
    }

    /** How much gas is used by a block with this transaction alone, of person 0, who has 10000 coins. */
    private static int used(int value, int gas, int most) {
        ForkBridge x = new ForkBridge();
        x.submit(0, 0, 0, 1, value, 0, gas, most, 0);
        x.make(0, 0, 5, 1);
        return x.used(0, 1);
    }

    private static void enoughCoins() {
        CHECKS.sentence(FIT);
        int[][] just = {{10000 - 180, 20, 9}, {0, 100, 100}, {8000, 20, 100}, {4600, 600, 9}, {400, 600, 16}, {0, 500, 20}, {1, 303, 33}};
        for (int[] j : just) {
            CHECKS.same("just enough for " + java.util.Arrays.toString(j), used(j[0], j[1], j[2]), 20);
            CHECKS.same("one more value than " + java.util.Arrays.toString(j), used(j[0] + 1, j[1], j[2]), 0);
        }
        CHECKS.same("all coins as value", used(10000, 20, 9), 0);
        CHECKS.same("the greatest gas and most", used(0, 600, 100), 0);
        ForkBridge x = new ForkBridge();
        x.submit(0, 1, 0, 0, 1, 0, 20, 20, 1);
        x.submit(0, 0, 0, 1, 9821, 0, 20, 9, 0);
        x.make(0, 0, 5, 1);
        CHECKS.same("by then, with the coin of the one ahead, it is fit", x.used(0, 1), 40);
    }

    private static void coinsAtEachGas() {
        CHECKS.sentence("the sender has the value and its gas times its most");
        for (int most = 9; most <= 100; most++) {
            int gas = Math.min(600, 10000 / most);
            int value = 10000 - gas * most;
            CHECKS.same("most " + most, used(value, gas, most), 20);
            CHECKS.same("a coin more, most " + most, used(value + 1, gas, most), 0);
        }
    }

    private static void mostAndBase() {
        CHECKS.sentence("and its most is at least the base.");
        for (int most = 1; most <= 12; most++) {
            ForkBridge x = new ForkBridge();
            x.submit(0, 0, 0, 1, 0, 0, 20, most, most);
            for (int block = 1; block <= 4; block++) {
                x.make(0, block - 1, 5, 1);
            }
            // The bases are 9, 8, 7 and 7: it is run in the first block whose base is not above its most.
            int first = most >= 9 ? 1 : most == 8 ? 2 : most == 7 ? 3 : 0;
            for (int block = 1; block <= 4; block++) {
                CHECKS.same("most " + most + " in the block " + block, x.used(0, block), block == first ? 20 : 0);
            }
        }
    }

    private static void prices() {
        CHECKS.sentence("It is run like this: its price is the lesser of its most, and the base and the tip;");
        for (int most = 9; most <= 14; most++) {
            for (int tip = 0; tip <= most && tip <= 6; tip++) {
                ForkBridge x = new ForkBridge();
                x.submit(0, 0, 0, 1, 0, 0, 50, most, tip);
                x.make(0, 0, 5, 1);
                int price = most < BASE + tip ? most : BASE + tip;
                CHECKS.same("the sender, most " + most + ", tip " + tip, x.coins(0, 1, 0), 10000 - 20 * price);
                CHECKS.sentence("of each gas used the base is burned, and the rest of the price goes to the producer.");
                CHECKS.same("burned", x.burned(0, 1), 20 * BASE);
                CHECKS.same("the producer, most " + most + ", tip " + tip, x.coins(0, 1, 5), 10000 + 20 * (price - BASE));
            }
        }
        CHECKS.same("the greatest tip", used(0, 100, 100), 20);
    }

    private static void payers() {
        CHECKS.sentence("of each gas used the base is burned, and the rest of the price goes to the producer.");
        ForkBridge x = new ForkBridge();
        x.submit(0, 3, 0, 3, 500, 0, 20, 20, 4);
        x.make(0, 0, 3, 1);
        CHECKS.same("sender, target and producer are one", x.coins(0, 1, 3), 10000 - 20 * BASE);
        ForkBridge y = new ForkBridge();
        y.submit(0, 0, 0, 1, 0, 0, 20, 100, 100);
        y.submit(0, 1, 0, 2, 8000, 0, 20, 100, 0);
        y.make(0, 0, 1, 1);
        CHECKS.same("a producer is paid behind each transaction", y.used(0, 1), 40);
        CHECKS.same("and pays as others do", y.coins(0, 1, 1), 10000 + 20 * 91 - 8000 - 20 * BASE);
    }

    private static void nonceInAnyCase() {
        CHECKS.sentence("the nonce becomes 1 more;");
        for (int ending : new int[] {ForkBridge.STOP, ForkBridge.FAIL, ForkBridge.DROP, ForkBridge.END}) {
            Lab lab = new Lab().program(0, ending == ForkBridge.END ? ForkBridge.PUSH : ending, 0, ending, 0).call(10, 7, 0, 100);
            CHECKS.same("behind an end by " + ending, lab.x.codeOf(0, 1, 1), 10);
            CHECKS.same("the called one's stays", lab.x.codeOf(0, 1, 6) / 10, 1);
        }
    }

    /** The program sees what the sender has by then: all its gas is paid for, though most of it is paid back. */
    private static void paidAhead() {
        CHECKS.sentence("A transaction has a sender, a person, its nonce, a target, a value, an input, gas, the most that it pays for each gas, and a tip.");
        CHECKS.sentence("the sender pays gas times price;");
        for (int gas : new int[] {132, 133, 300, 580}) {
            for (int most = 9; most <= 13; most++) {
                ForkBridge x = new ForkBridge();
                Lab.program(x, 0, ForkBridge.CALLER, 0, ForkBridge.COINS, 0, ForkBridge.WRITE, 0);
                x.submit(0, 0, 0, 16, 0, 0, 20, 20, 9);
                x.submit(0, 1, 0, 6, 77, 0, gas, most, 2);
                x.make(0, 0, 5, 1);
                int price = Math.min(most, BASE + 2);
                CHECKS.same("what the program sees", x.slot(0, 1, 6, 0), 10000 - 77 - gas * price);
                CHECKS.same("what is left to the sender", x.coins(0, 1, 1), 10000 - 77 - (20 + 112) * price);
            }
        }
    }

    private static void valueAndRest() {
        CHECKS.sentence("then, for an account, the value goes there, and its program, if it has one, runs in a call with the rest of the gas, the sender being the caller;");
        for (int gas = 20; gas <= 30; gas++) {
            Lab lab = new Lab().program(0, ForkBridge.JUMP, 0).call(0, 0, 0, gas);
            CHECKS.same("all of " + gas + " is used up", lab.result, 100000 * gas + 10);
        }
        Lab full = new Lab().program(0, ForkBridge.JUMP, 0).call(0, 0, 0, 580);
        CHECKS.same("all of 580", full.result, 58000010);
        for (int value : new int[] {0, 1, 10000 - 20 * 10}) {
            Lab lab = new Lab().call(5, value, 0, 20);
            CHECKS.same("value", lab.coins(6), 5 + value);
        }
    }

    private static void valueIsBack() {
        CHECKS.sentence("if it ends badly, the value is back.");
        for (int[] steps : new int[][] {{ForkBridge.FAIL, 0}, {ForkBridge.DROP, 0}, {ForkBridge.JUMP, 0}}) {
            Lab lab = new Lab().program(0, steps).call(5, 777, 0, 50);
            CHECKS.same("the contract's", lab.coins(6), 5);
            CHECKS.same("the sender's", lab.coins(1), 10000 - BASE * (lab.result / 100000));
        }
    }

    private static void gasPaidBack() {
        CHECKS.sentence("The gas that was not used is paid back;");
        for (int gas = 20; gas <= 600; gas += 58) {
            ForkBridge x = new ForkBridge();
            x.submit(0, 0, 0, 1, 0, 0, gas, 12, 2);
            x.make(0, 0, 5, 1);
            CHECKS.same("of " + gas, x.coins(0, 1, 0), 10000 - 20 * 11);
            CHECKS.same("used", x.used(0, 1), 20);
        }
    }
}
