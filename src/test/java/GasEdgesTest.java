/** What each step costs: the gas that just pays for it, and one less; memory that grows; what is given back. */
public final class GasEdgesTest {
    private static final Checks CHECKS = new Checks("GasEdgesTest");
    private static final int PUSH = ForkBridge.PUSH;
    private static final int DROP = ForkBridge.DROP;
    private static final int READ = ForkBridge.READ;
    private static final int WRITE = ForkBridge.WRITE;
    private static final int PUT = ForkBridge.PUT;
    private static final int GET = ForkBridge.GET;
    /** The half, rounded down, of 1, 4, 9, 16, and so on up to 256. */
    private static final int[] S = {0, 2, 4, 8, 12, 18, 24, 32, 40, 50, 60, 72, 84, 98, 112, 128};

    public static void main(String[] args) {
        stepsOfEachKind();
        writes();
        upgrades();
        firstCells();
        laterCells();
        severalCells();
        cellsOfInnerCalls();
        startGas();
        paidAhead();
        failLeaves();
        givenBack();
        givenBackTogether();
        CHECKS.end();
    }

    /** Ends well with just this gas for the program, and badly with one less, all of which is used up. */
    private static void costs(String what, int gas, int upgrade, int... steps) {
        Lab just = made(upgrade, steps).call(100, 7, 42, 20 + gas);
        CHECKS.yes(what + ": " + gas + " gas pay", just.well());
        CHECKS.same(what + ": what it used", just.result / 100000, 20 + gas);
        Lab less = made(upgrade, steps).call(100, 7, 42, 20 + gas - 1);
        CHECKS.no(what + ": " + (gas - 1) + " gas pay", less.well());
        CHECKS.same(what + ": all is used up", less.result / 100000, 20 + gas - 1);
        CHECKS.same(what + ": the sender has paid that", less.coins(1), 10000 - 9 * (20 + gas - 1));
        Lab more = made(upgrade, steps).call(100, 7, 42, 20 + gas + 1);
        CHECKS.same(what + ": one more is left", more.result / 100000, 20 + gas);
        CHECKS.same(what + ": and paid back", more.coins(1), 10000 - 7 - 9 * (20 + gas));
    }

    private static Lab made(int upgrade, int... steps) {
        Lab lab = new Lab().program(0, steps);
        lab.x.upgrade(0, upgrade);
        return lab;
    }

    private static void step(String words, int gas, int... steps) {
        CHECKS.sentence(words);
        costs("steps " + java.util.Arrays.toString(steps), gas, 1000, steps);
    }

    private static void stepsOfEachKind() {
        step("Operations, with their gas: PUSH (3) the argument, 0 to 9999;", 3, PUSH, 0);
        step("PUSH (3) the argument, 0 to 9999;", 3, PUSH, 9999);
        step("ADD (3)", 6 + 3, PUSH, 1, PUSH, 2, ForkBridge.ADD, 0);
        step("SUB (3)", 6 + 3, PUSH, 1, PUSH, 2, ForkBridge.SUB, 0);
        step("MUL (5)", 6 + 5, PUSH, 1, PUSH, 2, ForkBridge.MUL, 0);
        step("IS_LESS (3)", 6 + 3, PUSH, 1, PUSH, 2, ForkBridge.IS_LESS, 0);
        step("IS_SAME (3)", 6 + 3, PUSH, 1, PUSH, 2, ForkBridge.IS_SAME, 0);
        step("DOUBLE (3) pushes the top once more;", 3 + 3, PUSH, 1, ForkBridge.DOUBLE, 0);
        step("SWAP (3) exchanges the two upper ones;", 6 + 3, PUSH, 1, PUSH, 2, ForkBridge.SWAP, 0);
        step("DROP (2) takes the top;", 3 + 2, PUSH, 1, DROP, 0);
        step("READ (20) pushes the slot of the argument, 0 to 3;", 20, READ, 0);
        step("READ (20) pushes the slot of the argument, 0 to 3;", 20, READ, 3);
        step("JUMP (5) goes to the step of the argument, 0 to 20;", 5, ForkBridge.JUMP, 20);
        step("JUMP (5) goes to the step of the argument, 0 to 20;", 5, ForkBridge.JUMP, 1);
        step("JUMP_IF_ZERO (5) takes the top, and does so if it is 0;", 3 + 5, PUSH, 0, ForkBridge.JUMP_IF_ZERO, 20);
        step("JUMP_IF_ZERO (5) takes the top, and does so if it is 0;", 3 + 5, PUSH, 1, ForkBridge.JUMP_IF_ZERO, 0);
        step("CALLER (2), VALUE (2), INPUT (2) push these;", 2, ForkBridge.CALLER, 0);
        step("CALLER (2), VALUE (2), INPUT (2) push these;", 2, ForkBridge.VALUE, 0);
        step("CALLER (2), VALUE (2), INPUT (2) push these;", 2, ForkBridge.INPUT, 0);
        step("COINS (10)", 3 + 10, PUSH, 15, ForkBridge.COINS, 0);
        step("CALL (40), told below;", 9 + 40, PUSH, 2, PUSH, 0, PUSH, 0, ForkBridge.CALL, 0);
        step("CALL (40), told below;", 9 + 40, PUSH, 2, PUSH, 9999, PUSH, 0, ForkBridge.CALL, 0);
        step("LOG (20)", 3 + 20, PUSH, 15, ForkBridge.LOG, 0);
        step("MAKE (80), told below;", 3 + 80, PUSH, 0, ForkBridge.MAKE, 7);
        step("MAKE (80), told below;", 3 + 80, PUSH, 9999, ForkBridge.MAKE, 0);
        step("STOP (0) ends it well, and so does going behind the last step.", 3, PUSH, 0, ForkBridge.STOP, 0, ForkBridge.FAIL, 0);
        ends();
    }

    private static void ends() {
        CHECKS.sentence("END (20)");
        CHECKS.yes("23 gas pay", new Lab().program(0, PUSH, 2, ForkBridge.END, 0).call(100, 7, 0, 43).well());
        Lab less = new Lab().program(0, PUSH, 2, ForkBridge.END, 0).call(100, 7, 0, 42);
        CHECKS.no("22 gas pay", less.well());
        CHECKS.same("all is used up, nothing is given back", less.result / 100000, 42);
        CHECKS.same("the coins stay", less.coins(6), 100);
        CHECKS.sentence("FAIL (0) ends it badly;");
        Lab fail = new Lab().program(0, ForkBridge.FAIL, 0).call(100, 7, 0, 20);
        CHECKS.no("FAIL without gas", fail.well());
        CHECKS.same("costs nothing", fail.result / 100000, 20);
        CHECKS.same("and leaves its gas", new Lab().program(0, ForkBridge.FAIL, 0).call(100, 7, 0, 580).result / 100000, 20);
        CHECKS.yes("STOP without gas", new Lab().program(0, ForkBridge.STOP, 0).call(100, 7, 0, 20).well());
        CHECKS.yes("no steps, no gas", new Lab().call(100, 7, 0, 20).well());
    }

    /** Puts 999999 on the heap, for 9 gas. */
    private static int[] greatest(int... more) {
        int[] all = new int[6 + more.length];
        System.arraycopy(new int[] {PUSH, 0, PUSH, 1, ForkBridge.SUB, 0}, 0, all, 0, 6);
        System.arraycopy(more, 0, all, 6, more.length);
        return all;
    }

    private static void writes() {
        CHECKS.sentence("WRITE takes the top into that slot: 100, from the height of the upgrade on 150, if it was 0 and becomes another number, otherwise 30, and 40 are given back if it was not 0 and becomes 0;");
        for (int upgrade = 1; upgrade <= 2; upgrade++) {
            int fresh = upgrade == 1 ? 150 : 100;
            for (int slot = 0; slot < 4; slot++) {
                costs("0 stays 0", 3 + 30, upgrade, PUSH, 0, WRITE, slot);
                costs("0 becomes 1", 3 + fresh, upgrade, PUSH, 1, WRITE, slot);
                costs("1 becomes 2", 6 + fresh + 30, upgrade, PUSH, 1, WRITE, slot, PUSH, 2, WRITE, slot);
                costs("1 stays 1", 6 + fresh + 30, upgrade, PUSH, 1, WRITE, slot, PUSH, 1, WRITE, slot);
                costs("another slot is written", 6 + 2 * fresh, upgrade, PUSH, 1, WRITE, slot, PUSH, 1, WRITE, (slot + 1) % 4);
            }
            costs("0 becomes 999999", 9 + fresh, upgrade, greatest(WRITE, 0));
            Lab cleared = made(upgrade, PUSH, 1, WRITE, 0, PUSH, 0, WRITE, 0).call(0, 0, 0, 20 + 6 + fresh + 30);
            CHECKS.yes("1 becomes 0: 30 are paid, though more is given back", cleared.well());
            int gross = 20 + 6 + fresh + 30;
            CHECKS.same("40 are given back, but at most a fifth", cleared.result / 100000, gross - Math.min(40, gross / 5));
            Lab less = made(upgrade, PUSH, 1, WRITE, 0, PUSH, 0, WRITE, 0).call(0, 0, 0, gross - 1);
            CHECKS.no("29 do not pay", less.well());
            CHECKS.same("nothing is given back", less.result / 100000, gross - 1);
        }
        Lab again = new Lab().program(0, ForkBridge.INPUT, 0, WRITE, 0).call(0, 0, 5, 300);
        int[] inputs = {5, 6, 0, 0, 7};
        int[] due = {20 + 32, 20 + 32, 52 - 10, 52, 20 + 102};
        for (int n = 0; n < inputs.length; n++) {
            again.x.submit(0, 1, 1 + n, 6, 0, inputs[n], 300, 10, 0);
            again.x.make(0, 1 + n, 5, 1);
            CHECKS.same("of what an earlier block wrote, " + n, again.x.transactionAt(0, 2 + n, 0) / 100000, due[n]);
        }
    }

    private static void upgrades() {
        CHECKS.sentence("from the height of the upgrade on 150");
        for (int upgrade = 1; upgrade <= 5; upgrade++) {
            Lab lab = new Lab().program(0, ForkBridge.CALLER, 0, WRITE, 0, PUSH, 0, WRITE, 0);
            lab.x.upgrade(0, upgrade);
            lab.x.upgrade(1, 6 - upgrade);
            lab.call(0, 0, 0, 300);
            for (int height = 1; height <= 4; height++) {
                int gross = 20 + 2 + (height >= upgrade ? 150 : 100) + 33;
                CHECKS.same("height " + height + ", upgrade at " + upgrade, lab.result / 100000, gross - Math.min(40, gross / 5));
                lab.x.submit(0, 1, height, 6, 0, 0, 300, 10, 0);
                int block = lab.x.make(0, height, 5, 1);
                lab.result = lab.x.transactionAt(0, block, 0);
            }
            int fork = lab.x.make(0, 1, 5, 1);
            int gross = 20 + 2 + (2 >= upgrade ? 150 : 100) + 33;
            CHECKS.same("a fork counts by its height, not by its number", lab.x.transactionAt(0, fork, 0) / 100000, gross - Math.min(40, gross / 5));
            CHECKS.same("anew", lab.x.rootAnew(0, fork), lab.x.root(0, fork));
            CHECKS.same("anew", lab.x.rootAnew(0, 5), lab.x.root(0, 5));
        }
        Lab none = new Lab().program(0, ForkBridge.CALLER, 0, WRITE, 0).call(0, 0, 0, 300);
        CHECKS.same("without an upgrade", none.gas(), 102);
        Lab other = new Lab().program(0, ForkBridge.CALLER, 0, WRITE, 0);
        other.x.upgrade(1, 1);
        CHECKS.same("the other chain's is not meant", other.call(0, 0, 0, 300).gas(), 102);
        Lab twice = new Lab().program(0, ForkBridge.CALLER, 0, WRITE, 0);
        twice.x.upgrade(0, 1);
        twice.x.upgrade(0, 2);
        CHECKS.same("the last one counts", twice.call(0, 0, 0, 300).gas(), 102);
    }

    private static final String MEMORY = "if all cells that were put or got so far in this call are lower ones, it costs besides the s of this cell less the s of the highest of those (0 without any);";

    private static void firstCells() {
        CHECKS.sentence("PUT (3) takes the top into the memory cell of the argument, 0 to 15, and GET (3) pushes that: let s be the half, rounded down, of the square of the number of a cell and 1, added:");
        for (int cell = 0; cell < 16; cell++) {
            costs("GET of " + cell, 3 + S[cell], 1000, GET, cell);
            costs("PUT of " + cell, 3 + 3 + S[cell], 1000, PUSH, 1, PUT, cell);
            Lab kept = new Lab().program(0, PUSH, 9, PUT, cell, GET, cell, WRITE, 0).call(0, 0, 0, 580);
            CHECKS.same("what was put into " + cell, kept.slot(0), 9);
            Lab empty = new Lab().program(0, PUSH, 7, WRITE, 0, GET, cell, WRITE, 0).call(0, 0, 0, 580);
            CHECKS.same("0 at first in " + cell, empty.slot(0), 0);
            Lab over = new Lab().program(0, PUSH, 9, PUT, cell, PUSH, 8, PUT, cell, GET, cell, WRITE, 0).call(0, 0, 0, 580);
            CHECKS.same("the last that was put into " + cell, over.slot(0), 8);
            for (int other = 0; other < 16; other++) {
                Lab apart = new Lab().program(0, PUSH, 9, PUT, cell, GET, other, WRITE, 0).call(0, 0, 0, 580);
                CHECKS.same("the cell " + other + " behind a put to " + cell, apart.slot(0), other == cell ? 9 : 0);
            }
        }
    }

    private static void laterCells() {
        CHECKS.sentence(MEMORY);
        for (int first = 0; first < 16; first++) {
            for (int cell = 0; cell < 16; cell++) {
                int more = cell > first ? S[cell] - S[first] : 0;
                String what = "the cell " + cell + " behind " + first;
                costs(what, 3 + S[first] + 3 + more, 1000, GET, first, GET, cell);
                costs(what, 6 + S[first] + 3 + more, 1000, PUSH, 0, PUT, first, GET, cell);
                costs(what, 3 + S[first] + 3 + more, 1000, GET, first, PUT, cell);
            }
        }
    }

    private static void severalCells() {
        CHECKS.sentence(MEMORY);
        for (int middle = 0; middle < 16; middle++) {
            for (int last = 0; last < 16; last++) {
                int highest = Math.max(5, middle);
                int due = 9 + S[highest] + (last > highest ? S[last] - S[highest] : 0);
                costs("the cells 5, " + middle + ", " + last, due, 1000, GET, 5, GET, middle, GET, last);
            }
        }
    }

    private static void cellsOfInnerCalls() {
        CHECKS.sentence("it has a heap of up to 16 numbers, empty at first, and 16 memory cells, 0 at first.");
        // With the input 1 it puts 1 into the cell 3 and calls itself; with the input 0 it gets the cell 3, and writes it to slot 0.
        Lab lab = new Lab().program(0, ForkBridge.INPUT, 0, ForkBridge.JUMP_IF_ZERO, 11, PUSH, 1, PUT, 3, PUSH, 6, PUSH, 0, PUSH, 0, ForkBridge.CALL, 0,
            GET, 3, WRITE, 1, ForkBridge.STOP, 0, GET, 3, WRITE, 0);
        lab.call(100, 0, 1, 580);
        CHECKS.yes("well", lab.well());
        CHECKS.same("0 at first in an inner call", lab.slot(0), 0);
        CHECKS.same("the outer call keeps its own", lab.slot(1), 1);
        int inner = 2 + 5 + 3 + S[3] + 30;
        CHECKS.same("the inner call pays for its own cells", lab.gas(), 2 + 5 + 3 + 3 + S[3] + 9 + 40 + inner + 3 + 100);
    }

    private static void startGas() {
        CHECKS.sentence("20 gas are used;");
        ForkBridge x = new ForkBridge();
        for (int target = 0; target < 24; target++) {
            if (target % 8 == 0) {
                x = new ForkBridge();
                x.make(0, 0, 5, 1);
            }
            x.submit(0, target % 6, target % 8 / 6, target, 0, 0, 20 + target, 10, 0);
            int block = x.make(0, x.head(0), 5, 1);
            CHECKS.same("gas of a transaction to " + target, x.transactionAt(0, block, 0) / 100000, 20);
        }
    }

    private static void paidAhead() {
        CHECKS.sentence("A step is paid for ahead of all that it does.");
        // It calls itself: 49 of 98 are left behind CALL, of which 12 stay; the 37 do not pay for another CALL.
        Lab call = new Lab().program(0, PUSH, 6, PUSH, 0, PUSH, 0, ForkBridge.CALL, 0).call(0, 0, 0, 20 + 98);
        CHECKS.yes("well", call.well());
        CHECKS.same("the quarter is of what CALL leaves", call.gas(), 98 - 12);
        Lab coins = new Lab().program(0, PUSH, 1, ForkBridge.COINS, 0, WRITE, 0).call(0, 0, 0, 333);
        CHECKS.same("the sender has paid for all its gas by then", coins.slot(0), 10000 - 9 * 333);
        CHECKS.same("and is paid back later", coins.coins(1), 10000 - 9 * (20 + 113));
        Lab poor = new Lab().program(0, PUSH, 3, ForkBridge.LOG, 0, PUSH, 4, ForkBridge.LOG, 0).call(0, 0, 0, 20 + 23 + 22);
        CHECKS.same("a step that cannot be paid for does nothing", poor.events(), 0);
        CHECKS.same("its gas is used up", poor.gas(), 45);
    }

    private static void failLeaves() {
        CHECKS.sentence("FAIL leaves what gas it has.");
        for (int gas = 0; gas <= 10; gas++) {
            Lab lab = new Lab().program(0, PUSH, 1, ForkBridge.FAIL, 0).call(0, 0, 0, 20 + gas);
            CHECKS.no("badly", lab.well());
            CHECKS.same("gas of PUSH and FAIL with " + gas, lab.gas(), Math.min(3, gas));
        }
    }

    private static Lab backOf(int... more) {
        int[] all = new int[8 + more.length];
        System.arraycopy(new int[] {PUSH, 5, WRITE, 0, PUSH, 0, WRITE, 0}, 0, all, 0, 8);
        System.arraycopy(more, 0, all, 8, more.length);
        return Lab.of(all);
    }

    private static void givenBack() {
        CHECKS.sentence("What is given back is at most a fifth of the gas that was used, rounded down, and makes it less.");
        CHECKS.same("a fifth of 156 is 31", backOf().result / 100000, 156 - 31);
        CHECKS.same("a fifth of 159 is 31", backOf(PUSH, 0).result / 100000, 159 - 31);
        CHECKS.same("a fifth of 160 is 32", backOf(ForkBridge.CALLER, 0, ForkBridge.CALLER, 0).result / 100000, 160 - 32);
        CHECKS.same("a fifth of 199 is 39", backOf(READ, 0, READ, 0, PUSH, 0).result / 100000, 199 - 39);
        CHECKS.same("a fifth of 200 is 40", backOf(READ, 0, READ, 0, ForkBridge.CALLER, 0, ForkBridge.CALLER, 0).result / 100000, 200 - 40);
        CHECKS.same("of 201 there are 40 given back", backOf(READ, 0, READ, 0, ForkBridge.JUMP, 7).result / 100000, 201 - 40);
        CHECKS.same("no more than 40 of 205", backOf(READ, 0, READ, 0, PUSH, 0, PUSH, 0, PUSH, 0).result / 100000, 205 - 40);
        CHECKS.same("no more than 40 of 256", backOf(READ, 0, READ, 0, READ, 0, READ, 0, READ, 0).result / 100000, 256 - 40);
        Lab paid = backOf(READ, 0, READ, 0, ForkBridge.CALLER, 0, ForkBridge.CALLER, 0);
        CHECKS.same("the sender pays for 160", paid.coins(1), 10000 - 7 - 9 * 160);
        CHECKS.same("the block used 20 and 160", paid.x.used(0, 1), 180);
        CHECKS.same("for 180 is burned", paid.x.burned(0, 1), 9 * 180);
    }

    private static void givenBackTogether() {
        CHECKS.sentence("60 are given back");
        int[] four = {PUSH, 5, WRITE, 0, PUSH, 5, WRITE, 1, PUSH, 5, WRITE, 2, PUSH, 5, WRITE, 3};
        int[] end = java.util.Arrays.copyOf(four, 20);
        System.arraycopy(new int[] {PUSH, 2, ForkBridge.END, 0}, 0, end, 16, 4);
        CHECKS.same("60 of END", Lab.of(end).result / 100000, 20 + 412 + 23 - 60);
        int[] both = java.util.Arrays.copyOf(four, 26);
        System.arraycopy(new int[] {PUSH, 0, WRITE, 3, READ, 0, PUSH, 2, ForkBridge.END, 0}, 0, both, 16, 10);
        CHECKS.same("40 and 60 add up", Lab.of(both).result / 100000, 20 + 412 + 33 + 20 + 23 - 100);
        int[] clears = java.util.Arrays.copyOf(four, 24);
        System.arraycopy(new int[] {PUSH, 0, WRITE, 1, PUSH, 0, WRITE, 2}, 0, clears, 16, 8);
        CHECKS.same("40 and 40 add up", Lab.of(clears).result / 100000, 20 + 412 + 66 - 80);
        int[] most = java.util.Arrays.copyOf(four, 28);
        System.arraycopy(new int[] {PUSH, 0, WRITE, 1, PUSH, 0, WRITE, 2, PUSH, 0, WRITE, 3}, 0, most, 16, 12);
        CHECKS.same("120 are more than a fifth of 531", Lab.of(most).result / 100000, 20 + 412 + 99 - 106);
        Lab next = Lab.of(PUSH, 5, WRITE, 0, PUSH, 0, WRITE, 0, ForkBridge.INPUT, 0, ForkBridge.DROP, 0);
        next.x.submit(0, 2, 0, 3, 0, 0, 20, 10, 0);
        next.x.make(0, 1, 5, 1);
        CHECKS.same("nothing is given back for the next transaction", next.x.transactionAt(0, 2, 0) / 100000, 20);
        Lab same = new Lab().program(0, PUSH, 5, WRITE, 0, PUSH, 0, WRITE, 0);
        same.x.submit(0, 2, 0, 3, 0, 0, 20, 10, 0);
        same.x.submit(0, 0, 0, 16, 0, 0, 20, 10, 4);
        same.x.submit(0, 1, 0, 6, 0, 0, 300, 10, 1);
        same.x.make(0, 0, 5, 1);
        CHECKS.same("nor in the same block", same.x.transactionAt(0, 1, 2), 2000001);
    }
}
