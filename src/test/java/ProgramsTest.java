/** Promises 1 to 3, and each operation of a program with its gas. */
public final class ProgramsTest {
    private static final Checks CHECKS = new Checks("ProgramsTest");
    private static final int PUSH = ForkBridge.PUSH;
    private static final int WRITE = ForkBridge.WRITE;
    /** The base of the block 1, which all pay there. */
    private static final int PRICE = 9;

    public static void main(String[] args) {
        newObject();
        steps();
        refusedSteps();
        upgrades();
        arithmetic();
        heap();
        jumps();
        questions();
        memory();
        slots();
        upgradedSlots();
        endings();
        events();
        ends();
        endOfAnother();
        CHECKS.end();
    }

    private static void newObject() {
        ForkBridge x = new ForkBridge();
        for (int chain = 0; chain < 2; chain++) {
            CHECKS.same("blocks of a new chain", Look.countBlocks(x, chain), 1);
            CHECKS.same("upgrade of a new chain", x.upgrade(chain, 1), 1000);
            CHECKS.same("pool", x.pool(chain), 0);
            CHECKS.same("head", x.head(chain), 0);
            CHECKS.same("lastFinal", x.lastFinal(chain), 0);
            CHECKS.yes("first block justified", x.isJustified(chain, 0));
            CHECKS.same("base", x.base(chain, 0), 10);
            CHECKS.same("used", x.used(chain, 0), 0);
            CHECKS.same("bloom", x.bloom(chain, 0), 0);
            CHECKS.same("burned", x.burned(chain, 0), 0);
            for (int account = 0; account < 16; account++) {
                int due = account < 6 ? 10000 : account == 15 ? 20000 : 0;
                CHECKS.same("coins of " + account, x.coins(chain, 0, account), due);
                CHECKS.same("codeOf " + account, x.codeOf(chain, 0, account), 0);
                for (int slot = 0; slot < 4; slot++) {
                    CHECKS.same("slot", x.slot(chain, 0, account, slot), 0);
                }
            }
            for (int validator = 0; validator < 4; validator++) {
                CHECKS.same("stake", x.stake(chain, validator), 100);
            }
        }
        for (int program = 0; program < 8; program++) {
            CHECKS.same("first step of a program", x.step(program, ForkBridge.STOP, 0), 1);
        }
    }

    /** The greatest argument of each operation. */
    private static int greatest(int operation) {
        switch (operation) {
            case ForkBridge.PUSH: return 9999;
            case ForkBridge.READ: case ForkBridge.WRITE: return 3;
            case ForkBridge.JUMP: case ForkBridge.JUMP_IF_ZERO: return 20;
            case ForkBridge.PUT: case ForkBridge.GET: return 15;
            case ForkBridge.MAKE: return 7;
            default: return 0;
        }
    }

    private static void steps() {
        for (int operation = 0; operation <= 24; operation++) {
            ForkBridge x = new ForkBridge();
            int op = operation;
            CHECKS.same("least argument of " + op, x.step(7, op, 0), 1);
            CHECKS.same("greatest argument of " + op, x.step(7, op, greatest(op)), 2);
            CHECKS.refused(x, "argument below for " + op, Checks.NO_ARGUMENT, () -> x.step(7, op, -1));
            CHECKS.refused(x, "argument above for " + op, Checks.NO_ARGUMENT, () -> x.step(7, op, greatest(op) + 1));
            CHECKS.refused(x, "a far argument for " + op, Checks.NO_ARGUMENT, () -> x.step(7, op, Integer.MAX_VALUE));
            CHECKS.same("nothing was added", x.step(7, op, 0), 3);
        }
        ForkBridge x = new ForkBridge();
        for (int s = 1; s <= 20; s++) {
            CHECKS.same("steps", x.step(3, PUSH, s), s);
        }
        CHECKS.refused(x, "a 21st step", Checks.NO_STATE, () -> x.step(3, PUSH, 0));
        CHECKS.refused(x, "a wrong 21st step", Checks.NO_ARGUMENT, () -> x.step(3, PUSH, -1));
        CHECKS.same("another program has room", x.step(4, PUSH, 0), 1);
    }

    private static void refusedSteps() {
        ForkBridge x = new ForkBridge();
        CHECKS.refused(x, "program -1", Checks.NO_INDEX, () -> x.step(-1, PUSH, 0));
        CHECKS.refused(x, "program 8 with a wrong operation", Checks.NO_INDEX, () -> x.step(8, -1, -1));
        CHECKS.refused(x, "operation -1", Checks.NO_ARGUMENT, () -> x.step(0, -1, 0));
        CHECKS.refused(x, "operation 25", Checks.NO_ARGUMENT, () -> x.step(0, 25, 0));
        CHECKS.refused(x, "least operation", Checks.NO_ARGUMENT, () -> x.step(0, Integer.MIN_VALUE, 0));
        x.submit(1, 0, 0, 0, 0, 0, 20, 1, 0);
        CHECKS.refused(x, "a step behind a transaction", Checks.NO_STATE, () -> x.step(0, PUSH, 0));
        CHECKS.refused(x, "program 8 behind a transaction", Checks.NO_INDEX, () -> x.step(8, PUSH, 0));
        CHECKS.refused(x, "operation 25 behind a transaction", Checks.NO_ARGUMENT, () -> x.step(0, 25, 0));
        ForkBridge y = new ForkBridge();
        y.make(0, 0, 0, 1);
        CHECKS.same("a step behind a block alone", y.step(0, PUSH, 0), 1);
    }

    private static void upgrades() {
        ForkBridge x = new ForkBridge();
        CHECKS.same("upgrade", x.upgrade(0, 1), 1000);
        CHECKS.same("upgrade", x.upgrade(0, 1000), 1);
        CHECKS.same("upgrade", x.upgrade(0, 3), 1000);
        CHECKS.same("the other chain's", x.upgrade(1, 7), 1000);
        CHECKS.refused(x, "chain -1", Checks.NO_INDEX, () -> x.upgrade(-1, 0));
        CHECKS.refused(x, "chain 2", Checks.NO_INDEX, () -> x.upgrade(2, 5));
        CHECKS.refused(x, "height 0", Checks.NO_ARGUMENT, () -> x.upgrade(0, 0));
        CHECKS.refused(x, "height 1001", Checks.NO_ARGUMENT, () -> x.upgrade(0, 1001));
        CHECKS.same("unchanged", x.upgrade(0, 4), 3);
        x.submit(0, 0, 0, 0, 0, 0, 20, 1, 0);
        CHECKS.same("behind a transaction", x.upgrade(0, 5), 4);
        x.make(0, 0, 0, 1);
        CHECKS.refused(x, "with two blocks", Checks.NO_STATE, () -> x.upgrade(0, 6));
        CHECKS.refused(x, "with two blocks, and out of range", Checks.NO_ARGUMENT, () -> x.upgrade(0, 0));
        CHECKS.same("the other chain has one", x.upgrade(1, 8), 7);
    }

    /** Runs the steps, writes what is left on the heap to slot 0, and checks the number and the gas of the steps. */
    private static void gives(String what, int number, int gas, int... steps) {
        int[] all = java.util.Arrays.copyOf(steps, steps.length + 2);
        all[steps.length] = WRITE;
        Lab lab = Lab.of(all);
        CHECKS.yes(what + " ends well", lab.well());
        CHECKS.same(what + " number", lab.slot(0), number);
        CHECKS.same(what + " gas", lab.gas(), gas + (number == 0 ? 30 : 100));
    }

    /** Ends badly with all its gas used, and undoes the write ahead. */
    private static void breaks(String what, int... steps) {
        int[] all = new int[steps.length + 4];
        all[0] = PUSH;
        all[1] = 1;
        all[2] = WRITE;
        all[3] = 1;
        System.arraycopy(steps, 0, all, 4, steps.length);
        Lab lab = Lab.of(all);
        CHECKS.no(what + " ends badly", lab.well());
        CHECKS.same(what + " uses up its gas", lab.gas(), 560);
        CHECKS.same(what + " undoes", lab.slot(1), 0);
        CHECKS.same(what + " gives the value back", lab.coins(6), 100);
        CHECKS.same(what + " gives the value back", lab.coins(1), 10000 - 580 * PRICE);
    }

    private static void arithmetic() {
        gives("PUSH", 9999, 3, PUSH, 9999);
        gives("ADD", 12, 9, PUSH, 7, PUSH, 5, ForkBridge.ADD, 0);
        gives("ADD over", 4, 15, PUSH, 0, PUSH, 1, ForkBridge.SUB, 0, PUSH, 5, ForkBridge.ADD, 0);
        gives("SUB", 2, 9, PUSH, 7, PUSH, 5, ForkBridge.SUB, 0);
        gives("SUB below", 999998, 9, PUSH, 5, PUSH, 7, ForkBridge.SUB, 0);
        gives("MUL", 35, 11, PUSH, 7, PUSH, 5, ForkBridge.MUL, 0);
        gives("MUL over", 980001, 11, PUSH, 9999, PUSH, 9999, ForkBridge.MUL, 0);
        gives("MUL of the greatest", 1, 17, PUSH, 0, PUSH, 1, ForkBridge.SUB, 0, ForkBridge.DOUBLE, 0, ForkBridge.MUL, 0);
        gives("IS_LESS", 1, 9, PUSH, 5, PUSH, 7, ForkBridge.IS_LESS, 0);
        gives("IS_LESS, same", 0, 9, PUSH, 7, PUSH, 7, ForkBridge.IS_LESS, 0);
        gives("IS_LESS, greater", 0, 9, PUSH, 7, PUSH, 5, ForkBridge.IS_LESS, 0);
        gives("IS_SAME", 1, 9, PUSH, 7, PUSH, 7, ForkBridge.IS_SAME, 0);
        gives("IS_SAME, not", 0, 9, PUSH, 7, PUSH, 8, ForkBridge.IS_SAME, 0);
        gives("DOUBLE", 81, 11, PUSH, 9, ForkBridge.DOUBLE, 0, ForkBridge.MUL, 0);
        gives("SWAP", 999997, 12, PUSH, 5, PUSH, 2, ForkBridge.SWAP, 0, ForkBridge.SUB, 0);
        gives("DROP", 5, 8, PUSH, 5, PUSH, 2, ForkBridge.DROP, 0);
    }

    private static int[] pushes(int count, int... more) {
        int[] steps = new int[2 * count + more.length];
        for (int i = 0; i < count; i++) {
            steps[2 * i] = PUSH;
            steps[2 * i + 1] = i;
        }
        System.arraycopy(more, 0, steps, 2 * count, more.length);
        return steps;
    }

    private static void heap() {
        for (int operation : new int[] {1, 2, 3, 4, 5, 7}) {
            breaks("one number for " + operation, PUSH, 1, operation, 0);
        }
        for (int operation : new int[] {6, 8, 10, 12, 16, 17, 20, 21, 22}) {
            breaks("none for " + operation, operation, 0);
        }
        breaks("two numbers for CALL", PUSH, 6, PUSH, 0, ForkBridge.CALL, 0);
        gives("16 numbers", 15, 48, pushes(16));
        breaks("17 numbers", pushes(17));
        for (int operation : new int[] {6, 9, 13, 14, 15, 18}) {
            breaks("a 17th number by " + operation, pushes(16, operation, 0));
            gives("a 16th number by " + operation, operation == 6 ? 14 : operation == 13 ? 1 : operation == 14 ? 7 : operation == 15 ? 42 : 0,
                45 + (operation == 6 ? 3 : operation == 9 ? 20 : operation == 18 ? 3 : 2), pushes(15, operation, 0));
        }
        gives("COINS with 16 numbers", 20000, 58, pushes(16, ForkBridge.COINS, 0));
        for (int operation : new int[] {1, 2, 3, 4, 5, 7, 8, 10, 11, 12, 16, 17, 19, 20, 21, 22}) {
            CHECKS.yes("16 numbers for " + operation, Lab.of(pushes(16, operation, 0, ForkBridge.STOP, 0)).well() == (operation != 11));
        }
    }

    private static void jumps() {
        gives("JUMP", 1, 8, PUSH, 1, ForkBridge.JUMP, 3, PUSH, 2);
        gives("JUMP_IF_ZERO at 0", 1, 11, PUSH, 1, PUSH, 0, ForkBridge.JUMP_IF_ZERO, 4, PUSH, 2);
        gives("JUMP_IF_ZERO at another", 2, 14, PUSH, 1, PUSH, 9, ForkBridge.JUMP_IF_ZERO, 4, PUSH, 2);
        Lab far = Lab.of(ForkBridge.JUMP, 20, ForkBridge.FAIL, 0);
        CHECKS.yes("a jump behind the last step ends well", far.well());
        CHECKS.same("and costs 5", far.gas(), 5);
        breaks("a jump for ever", ForkBridge.JUMP, 2);
        Lab none = new Lab().call(100, 7, 0, 20);
        CHECKS.yes("a program without steps ends well", none.well());
        CHECKS.same("and costs nothing", none.gas(), 0);
    }

    private static void questions() {
        gives("CALLER", 1, 2, ForkBridge.CALLER, 0);
        gives("VALUE", 7, 2, ForkBridge.VALUE, 0);
        gives("INPUT", 42, 2, ForkBridge.INPUT, 0);
        gives("COINS of its own, with the value", 107, 13, PUSH, 6, ForkBridge.COINS, 0);
        gives("COINS of the sender, who has paid", 10000 - 7 - 580 * PRICE, 13, PUSH, 17, ForkBridge.COINS, 0);
        gives("COINS of the bridge", 20000, 13, PUSH, 15, ForkBridge.COINS, 0);
        gives("COINS modulo 16", 20000, 13, PUSH, 31, ForkBridge.COINS, 0);
        gives("COINS of a person", 10000, 13, PUSH, 16 * 600 + 2, ForkBridge.COINS, 0);
    }

    private static void memory() {
        gives("a cell is 0 at first", 0, 3, ForkBridge.GET, 0);
        gives("PUT and GET of cell 0", 8, 9, PUSH, 8, ForkBridge.PUT, 0, ForkBridge.GET, 0);
        gives("cell 1 costs 2 besides, once", 8, 11, PUSH, 8, ForkBridge.PUT, 1, ForkBridge.GET, 1);
        gives("GET of cell 2 costs 4 besides", 0, 7, ForkBridge.GET, 2);
        gives("cell 15 costs 128 besides", 0, 131, ForkBridge.GET, 15);
        gives("cell 2 behind cell 1 costs 2 besides", 0, 3 + 2 + 2 + 3 + 2, ForkBridge.GET, 1, ForkBridge.DROP, 0, ForkBridge.GET, 2);
        gives("a lower cell costs nothing besides", 0, 3 + 128 + 2 + 3, ForkBridge.GET, 15, ForkBridge.DROP, 0, ForkBridge.GET, 14);
        gives("cell 15 behind cell 0", 0, 3 + 2 + 131, ForkBridge.GET, 0, ForkBridge.DROP, 0, ForkBridge.GET, 15);
        gives("cells are apart", 5, 3 + 3 + 2 + 3 + 3 + 2 + 3, PUSH, 5, ForkBridge.PUT, 1, PUSH, 6, ForkBridge.PUT, 2, ForkBridge.GET, 1);
    }

    private static void slots() {
        Lab fresh = Lab.of(PUSH, 5, WRITE, 3, ForkBridge.READ, 3, WRITE, 0);
        CHECKS.same("a fresh WRITE costs 100, READ 20", fresh.gas(), 3 + 100 + 20 + 100);
        CHECKS.same("slot 3", fresh.slot(3), 5);
        CHECKS.same("slot 0", fresh.slot(0), 5);
        CHECKS.same("slot 1", fresh.slot(1), 0);
        CHECKS.same("0 over 0 costs 30", Lab.of(PUSH, 0, WRITE, 0).gas(), 33);
        CHECKS.same("a number over a number costs 30", Lab.of(PUSH, 5, WRITE, 0, PUSH, 6, WRITE, 0).gas(), 103 + 33);
        CHECKS.same("of the slot 2 too", Lab.of(PUSH, 5, WRITE, 2, PUSH, 6, WRITE, 2).gas(), 103 + 33);
        Lab cleared = Lab.of(PUSH, 5, WRITE, 0, PUSH, 0, WRITE, 0);
        CHECKS.same("0 over a number gives back at most a fifth", cleared.result / 100000, 156 - 31);
        CHECKS.same("the slot is 0", cleared.slot(0), 0);
        CHECKS.same("the sender paid that", cleared.coins(1), 10000 - 7 - 125 * PRICE);
        CHECKS.same("all was burned", cleared.x.burned(0, 1), PRICE * (20 + 125));
        Lab dear = Lab.of(PUSH, 5, WRITE, 0, PUSH, 5, WRITE, 1, PUSH, 0, WRITE, 0);
        CHECKS.same("40 are given back", dear.result / 100000, 20 + 206 + 33 - 40);
        Lab failed = Lab.of(PUSH, 5, WRITE, 0, PUSH, 5, WRITE, 1, PUSH, 0, WRITE, 0, ForkBridge.FAIL, 0);
        CHECKS.same("nothing is given back if it ends badly", failed.result / 100000, 20 + 206 + 33);
    }

    private static void upgradedSlots() {
        for (int height = 1; height <= 2; height++) {
            Lab lab = new Lab().program(0, PUSH, 5, WRITE, 0, PUSH, 6, WRITE, 0);
            lab.x.upgrade(0, height);
            lab.call(0, 0, 0, 300);
            CHECKS.same("the upgrade at " + height, lab.gas(), (height == 1 ? 153 : 103) + 33);
        }
        Lab later = new Lab().program(0, ForkBridge.INPUT, 0, WRITE, 0);
        later.x.upgrade(0, 2);
        later.call(0, 0, 0, 300);
        later.x.submit(0, 1, 1, 6, 0, 9, 300, 10, 0);
        later.x.make(0, 1, 0, 1);
        CHECKS.same("from its height on", later.x.transactionAt(0, 2, 0) / 100000, 20 + 2 + 150);
        CHECKS.same("the other chain is not meant", later.x.upgrade(1, 5), 1000);
    }

    private static void endings() {
        Lab stop = Lab.of(PUSH, 5, WRITE, 0, ForkBridge.STOP, 0, PUSH, 6, WRITE, 0);
        CHECKS.yes("STOP ends well", stop.well());
        CHECKS.same("STOP costs nothing", stop.gas(), 103);
        CHECKS.same("STOP keeps", stop.slot(0), 5);
        Lab fail = Lab.of(PUSH, 5, WRITE, 0, PUSH, 4, ForkBridge.LOG, 0, ForkBridge.FAIL, 0);
        CHECKS.no("FAIL ends badly", fail.well());
        CHECKS.same("FAIL leaves its gas", fail.gas(), 103 + 23);
        CHECKS.same("FAIL undoes a slot", fail.slot(0), 0);
        CHECKS.same("FAIL undoes an event", fail.events(), 0);
        CHECKS.same("FAIL undoes the bloom", fail.x.bloom(0, 1), 0);
        CHECKS.same("FAIL gives the value back", fail.coins(6), 100);
        CHECKS.same("but not the gas", fail.coins(1), 10000 - 146 * PRICE);
        CHECKS.same("the nonce stays", fail.x.codeOf(0, 1, 1), 10);
        for (int gas = 20; gas <= 26; gas++) {
            Lab lab = new Lab().program(0, PUSH, 1, PUSH, 2).call(0, 3, 0, gas);
            CHECKS.same("gas " + gas + " for two pushes", lab.well() ? 1 : 0, gas >= 26 ? 1 : 0);
            CHECKS.same("gas " + gas + " is used up", lab.gas(), gas - 20);
        }
    }

    private static void events() {
        Lab lab = Lab.of(ForkBridge.INPUT, 0, ForkBridge.LOG, 0, PUSH, 16, ForkBridge.LOG, 0, PUSH, 15, ForkBridge.LOG, 0);
        CHECKS.same("LOG costs 20", lab.gas(), 22 + 23 + 23);
        CHECKS.same("events", lab.events(), 3);
        CHECKS.same("the topic modulo 16, and the account", lab.x.eventAt(0, 1, 0), 1006);
        CHECKS.same("topic 0", lab.x.eventAt(0, 1, 1), 6);
        CHECKS.same("topic 15", lab.x.eventAt(0, 1, 2), 1506);
        int bits = 1 << 2 | 1 << 8 + 5 | 1 | 1 << 8 + 3 | 1 << 7 | 1 << 8 + 6;
        CHECKS.same("bloom", lab.x.bloom(0, 1), bits);
    }

    private static void ends() {
        Lab other = Lab.of(PUSH, 5, WRITE, 0, PUSH, 5, WRITE, 1, PUSH, 18, ForkBridge.END, 0, PUSH, 1, WRITE, 2);
        CHECKS.yes("END ends well", other.well());
        CHECKS.same("END gives back at most a fifth", other.result / 100000, 249 - 49);
        CHECKS.same("the coins go there", other.coins(2), 10107);
        CHECKS.same("its coins are gone", other.coins(6), 0);
        CHECKS.same("its program is gone, its nonce stays", other.x.codeOf(0, 1, 6), 10);
        CHECKS.same("its slots are gone", other.slot(0) + other.slot(1) + other.slot(2), 0);
        Lab self = Lab.of(PUSH, 6, ForkBridge.END, 0);
        CHECKS.same("its coins are gone", self.coins(6), 0);
        CHECKS.same("a fifth of 43 back", self.result / 100000, 43 - 8);
        CHECKS.same("to itself: they are burned", self.x.burned(0, 1), 107 + PRICE * (20 + 35));
        Lab sixty = Lab.of(PUSH, 5, WRITE, 0, PUSH, 5, WRITE, 1, PUSH, 5, WRITE, 2, PUSH, 18, ForkBridge.END, 0);
        CHECKS.same("END gives back 60", sixty.result / 100000, 20 + 309 + 23 - 60);
        Lab broken = Lab.of(PUSH, 3, ForkBridge.END, 0).callAgain();
        CHECKS.same("a call of an ended one only brings its value", broken.result, 100000 * 20 + 21);
        CHECKS.same("it is brought", broken.x.coins(0, 2, 6), 9);
        broken.x.submit(0, 0, 3, 16, 0, 0, 20, 10, 0);
        CHECKS.same("an ended one's address is not free", addressTried(broken.x), 0);
    }

    /** Person 0 at nonce 3 would make 6 + 9 modulo 9; answers whether the transaction ended well. */
    private static int addressTried(ForkBridge x) {
        x.submit(0, 0, 1, 0, 0, 0, 20, 10, 0);
        x.submit(0, 0, 2, 0, 0, 0, 20, 10, 0);
        x.make(0, 2, 5, 1);
        return x.transactionAt(0, 3, 2) % 10;
    }

    private static void endOfAnother() {
        // The contract calls itself; the inner call (which has a value) ends the account, the outer one writes all the same.
        Lab lab = new Lab().program(0, ForkBridge.CALLER, 0, PUSH, 6, ForkBridge.IS_SAME, 0, ForkBridge.JUMP_IF_ZERO, 6,
            PUSH, 2, ForkBridge.END, 0,
            PUSH, 6, PUSH, 1, PUSH, 0, ForkBridge.CALL, 0, WRITE, 1, ForkBridge.READ, 1, WRITE, 2, ForkBridge.CALLER, 0, ForkBridge.LOG, 0);
        lab.call(100, 7, 0, 580);
        CHECKS.yes("the outer call goes on", lab.well());
        CHECKS.same("it writes slots", lab.slot(1), 1);
        CHECKS.same("it reads slots", lab.slot(2), 1);
        CHECKS.same("it makes events", lab.x.eventAt(0, 1, 0), 106);
        CHECKS.same("it has no program any more", lab.x.codeOf(0, 1, 6), 10);
        CHECKS.same("the coins went", lab.coins(2), 10107);
    }
}
