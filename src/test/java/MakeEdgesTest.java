/** Contracts that programs and transactions make: addresses that wrap around, that are free or not, and with how many coins. */
public final class MakeEdgesTest {
    private static final Checks CHECKS = new Checks("MakeEdgesTest");
    private static final int PUSH = ForkBridge.PUSH;
    private static final int MAKE = ForkBridge.MAKE;
    private static final int LOG = ForkBridge.LOG;
    private static final int DROP = ForkBridge.DROP;

    public static void main(String[] args) {
        addressesOfPeople();
        addressesOfContracts();
        coins();
        programs();
        notFreeByProgram();
        notFreeByNonce();
        freeInSpiteOfCoins();
        nonceInAnyCase();
        nonceOfTheMade();
        transactionsThatMake();
        CHECKS.end();
    }

    /** The address by the nonces 0 to 9, of the people 0 to 5: 6 and what is told modulo 9. */
    private static final int[][] PEOPLE = {
        {6, 9, 12, 6, 9, 12, 6, 9, 12, 6},
        {11, 14, 8, 11, 14, 8, 11, 14, 8, 11},
        {7, 10, 13, 7, 10, 13, 7, 10, 13, 7},
        {12, 6, 9, 12, 6, 9, 12, 6, 9, 12},
        {8, 11, 14, 8, 11, 14, 8, 11, 14, 8},
        {13, 7, 10, 13, 7, 10, 13, 7, 10, 13}};

    private static void addressesOfPeople() {
        CHECKS.sentence("The address is 6 + (5 times the maker + 3 times its nonce) modulo 9;");
        for (int person = 0; person < 6; person++) {
            for (int nonce = 0; nonce < 10; nonce++) {
                ForkBridge x = new ForkBridge();
                for (int n = 0; n < nonce; n++) {
                    x.submit(0, person, n, 15, 0, 0, 20, 10, 0);
                }
                x.submit(0, person, nonce, 23, 5, 0, 20, 10, 0);
                x.make(0, 0, 0, 1);
                for (int account = 6; account < 15; account++) {
                    boolean made = account == PEOPLE[person][nonce];
                    CHECKS.same("account " + account + " behind nonce " + nonce + " of " + person, x.codeOf(0, 1, account), made ? 18 : 0);
                    CHECKS.same("coins of " + account, x.coins(0, 1, account), made ? 5 : 0);
                }
            }
        }
    }

    /** The address by the maker, from 6 to 14, at the nonces 1 to 3. */
    private static final int[][] CONTRACTS = {{12, 6, 9}, {8, 11, 14}, {13, 7, 10}, {9, 12, 6}, {14, 8, 11}, {10, 13, 7}, {6, 9, 12}, {11, 14, 8}, {7, 10, 13}};

    private static void addressesOfContracts() {
        CHECKS.sentence("the nonce of the maker, by which the address goes as it is ahead of that, becomes 1 more in any case.");
        for (int maker = 6; maker < 15; maker++) {
            ForkBridge x = new ForkBridge();
            Lab.program(x, 0, PUSH, 1, MAKE, 1, LOG, 0);
            contractAt(x, maker);
            int block = 1;
            for (int nonce = 1; nonce <= 3; nonce++) {
                x.submit(0, 5, nonce - 1, maker, 1, 0, 300, 20, 0);
                block = x.make(0, block, 0, 1);
                int address = CONTRACTS[maker - 6][nonce - 1];
                CHECKS.same("the address of " + maker + " at " + nonce, x.eventAt(0, block, 0), 100 * (address == maker ? 0 : address) + maker);
                CHECKS.same("the nonce of " + maker + " behind " + nonce, x.codeOf(0, block, maker), 10 * (nonce + 1) + 1);
                CHECKS.same("what is there", x.codeOf(0, block, address), address == maker ? 10 * (nonce + 1) + 1 : 12);
            }
        }
    }

    /** The first person and nonce that come to the address make a contract of the program 0 there, in the block 1. */
    private static void contractAt(ForkBridge x, int address) {
        for (int person = 0; person < 5; person++) {
            for (int nonce = 0; nonce < 3; nonce++) {
                if (PEOPLE[person][nonce] == address) {
                    for (int n = 0; n < nonce; n++) {
                        x.submit(0, person, n, 15, 0, 0, 20, 10, 0);
                    }
                    x.submit(0, person, nonce, 16, 0, 0, 20, 10, 0);
                    x.make(0, 0, 0, 1);
                    return;
                }
            }
        }
    }

    private static void coins() {
        CHECKS.sentence("MAKE takes a value: with fewer coins, or if the address is not free, 0 is pushed;");
        for (int value : new int[] {0, 1, 106, 107, 108, 9999}) {
            Lab lab = Lab.of(PUSH, value, MAKE, 3, ForkBridge.WRITE, 0);
            boolean enough = value <= 107;
            CHECKS.yes("it goes on", lab.well());
            CHECKS.same("the address, with " + value, lab.slot(0), enough ? 12 : 0);
            CHECKS.same("the contract, with " + value, lab.x.codeOf(0, 1, 12), enough ? 14 : 0);
            CHECKS.same("its coins, with " + value, lab.coins(12), enough ? value : 0);
            CHECKS.same("the maker's coins, with " + value, lab.coins(6), enough ? 107 - value : 107);
            CHECKS.same("the maker's nonce, with " + value, lab.x.codeOf(0, 1, 6), 21);
            CHECKS.same("gas, with " + value, lab.gas(), 83 + (enough ? 100 : 30));
        }
        Lab greatest = Lab.of(PUSH, 0, PUSH, 1, ForkBridge.SUB, 0, MAKE, 3, ForkBridge.WRITE, 0);
        CHECKS.same("the greatest value", greatest.slot(0) * 100 + greatest.x.codeOf(0, 1, 12), 0);
    }

    private static void programs() {
        CHECKS.sentence("otherwise the account at the address becomes a contract with the program of the argument, 0 to 7, the value goes there, and the address is pushed.");
        for (int program = 0; program < 8; program++) {
            Lab lab = new Lab();
            Lab.program(lab.x, 0, ForkBridge.INPUT, 0, LOG, 0, PUSH, 5, MAKE, program);
            if (program != 0) {
                Lab.program(lab.x, program, PUSH, program, LOG, 0);
            }
            lab.call(100, 0, 10, 580);
            CHECKS.same("the program " + program, lab.x.codeOf(0, 1, 12), 10 + program + 1);
            CHECKS.same("nothing runs yet", lab.events(), 1);
            lab.x.submit(0, 1, 1, 12, 0, 3, 300, 10, 0);
            lab.x.make(0, 1, 5, 1);
            CHECKS.same("the program " + program + " runs", lab.x.eventAt(0, 2, 0), 100 * (program == 0 ? 3 : program) + 12);
        }
    }

    private static void notFreeByProgram() {
        CHECKS.sentence("It is free if it has no program, and its nonce is 0;");
        Lab lab = new Lab().program(0, PUSH, 4, MAKE, 3, LOG, 0);
        lab.x.submit(0, 3, 0, 17, 9, 0, 20, 10, 0);
        lab.call(100, 7, 0, 560);
        CHECKS.same("person 3 was there ahead", lab.x.transactionAt(0, 1, 0), 2000001);
        CHECKS.same("the call", lab.x.transactionAt(0, 1, 2) % 100, 21);
        CHECKS.same("0", lab.x.eventAt(0, 1, 0), 6);
        CHECKS.same("the program that was there stays", lab.x.codeOf(0, 1, 12), 12);
        CHECKS.same("its coins stay", lab.coins(12), 9);
        CHECKS.same("no coins go", lab.coins(6), 107);
        CHECKS.same("the nonce is 1 more", lab.x.codeOf(0, 1, 6), 21);
    }

    private static void notFreeByNonce() {
        CHECKS.sentence("It is free if it has no program, and its nonce is 0;");
        // The account 12 was a contract, and ended: it has no program, but its nonce is 1.
        ForkBridge x = new ForkBridge();
        Lab.program(x, 0, PUSH, 4, MAKE, 3, LOG, 0);
        Lab.program(x, 1, PUSH, 2, ForkBridge.END, 0);
        x.submit(0, 3, 0, 17, 9, 0, 20, 10, 0);
        x.submit(0, 4, 0, 12, 0, 0, 100, 10, 0);
        x.submit(0, 0, 0, 16, 100, 0, 20, 10, 0);
        x.make(0, 0, 5, 1);
        CHECKS.same("ended", x.codeOf(0, 1, 12), 10);
        x.submit(0, 1, 0, 6, 7, 0, 300, 10, 0);
        x.submit(0, 0, 1, 15, 0, 0, 20, 10, 0);
        x.submit(0, 0, 2, 16, 33, 0, 20, 10, 0);
        x.make(0, 1, 5, 1);
        CHECKS.same("0", x.eventAt(0, 2, 0), 6);
        CHECKS.same("no program there", x.codeOf(0, 2, 12), 10);
        CHECKS.same("no coins there", x.coins(0, 2, 12), 0);
        CHECKS.same("nor for a transaction", x.transactionAt(0, 2, 2), 2000050);
        CHECKS.same("its value is back", x.coins(0, 1, 0) - x.coins(0, 2, 0), 40 * x.base(0, 2));
    }

    private static void freeInSpiteOfCoins() {
        CHECKS.sentence("It is free if it has no program, and its nonce is 0;");
        ForkBridge x = new ForkBridge();
        x.submit(0, 2, 0, 6, 55, 0, 20, 10, 0);
        x.submit(0, 0, 0, 16, 5, 0, 20, 10, 0);
        x.make(0, 0, 5, 1);
        CHECKS.same("well", x.transactionAt(0, 1, 1), 2000011);
        CHECKS.same("coins that were there stay", x.coins(0, 1, 6), 60);
        CHECKS.same("contract", x.codeOf(0, 1, 6), 11);
    }

    private static void nonceInAnyCase() {
        CHECKS.sentence("the nonce of the maker, by which the address goes as it is ahead of that, becomes 1 more in any case.");
        Lab poor = Lab.of(PUSH, 9999, MAKE, 0, DROP, 0, PUSH, 9999, MAKE, 0, DROP, 0, PUSH, 1, MAKE, 0, LOG, 0);
        CHECKS.same("nonce behind three", poor.x.codeOf(0, 1, 6), 41);
        CHECKS.same("the address of the nonce 3", poor.x.eventAt(0, 1, 0), 906);
        Lab own = Lab.of(PUSH, 1, MAKE, 0, DROP, 0, PUSH, 1, MAKE, 0, LOG, 0, PUSH, 1, MAKE, 0, LOG, 0);
        CHECKS.same("its own address is not free", own.x.eventAt(0, 1, 0), 6);
        CHECKS.same("the one behind that is", own.x.eventAt(0, 1, 1), 906);
        CHECKS.same("nonce", own.x.codeOf(0, 1, 6), 41);
        Lab undone = Lab.of(PUSH, 1, MAKE, 0, ForkBridge.FAIL, 0);
        CHECKS.same("undone, if the call ends badly", undone.x.codeOf(0, 1, 6), 11);
    }

    private static void nonceOfTheMade() {
        CHECKS.sentence("the nonce of a contract that is made is 1.");
        Lab lab = Lab.of(PUSH, 1, MAKE, 4);
        CHECKS.same("by a program", lab.x.codeOf(0, 1, 12), 15);
        CHECKS.same("by a transaction", new Lab().call(0, 0, 0, 20).x.codeOf(0, 1, 6), 11);
        CHECKS.same("the nonce of a caller does not go on", lab.x.codeOf(0, 1, 6), 21);
    }

    private static void transactionsThatMake() {
        CHECKS.sentence("for a program a contract is made (the maker being the sender with its nonce ahead of that, which does not become 1 more once more), which ends badly if the address is not free;");
        ForkBridge x = new ForkBridge();
        Lab.program(x, 0, PUSH, 1, LOG, 0);
        x.submit(0, 0, 0, 16, 10, 0, 600, 10, 0);
        x.submit(0, 3, 0, 15, 0, 0, 20, 10, 0);
        x.submit(0, 3, 1, 17, 20, 0, 20, 10, 0);
        x.make(0, 0, 5, 1);
        CHECKS.same("no program runs, 20 gas are used", x.transactionAt(0, 1, 0), 2000001);
        CHECKS.same("no event", Look.countEvents(x, 0, 1), 0);
        CHECKS.same("the nonce is 1 more, once", x.codeOf(0, 1, 0), 10);
        CHECKS.same("not free", x.transactionAt(0, 1, 2), 2000020);
        CHECKS.same("the nonce is 1 more all the same", x.codeOf(0, 1, 3), 20);
        CHECKS.same("the contract is as it was", x.codeOf(0, 1, 6), 11);
        CHECKS.sentence("if it ends badly, the value is back.");
        CHECKS.same("the value is back", x.coins(0, 1, 6), 10);
        CHECKS.same("but not the gas", x.coins(0, 1, 3), 10000 - 40 * 9);
    }
}
