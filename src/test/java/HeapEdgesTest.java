/** The heap: what each operation takes and pushes, with too few numbers, just enough, sixteen, and one too many. */
public final class HeapEdgesTest {
    private static final Checks CHECKS = new Checks("HeapEdgesTest");
    private static final int PUSH = ForkBridge.PUSH;
    private static final int DROP = ForkBridge.DROP;
    private static final int WRITE = ForkBridge.WRITE;
    /** The argument of a jump that goes to the step behind it. */
    private static final int BEHIND = -1;
    private static final int GAS = 560;

    /** Operation, argument, how many numbers it takes, how many it pushes. */
    private static final int[][] GOING_ON = {
        {PUSH, 0, 0, 1}, {ForkBridge.ADD, 0, 2, 1}, {ForkBridge.SUB, 0, 2, 1}, {ForkBridge.MUL, 0, 2, 1}, {ForkBridge.IS_LESS, 0, 2, 1},
        {ForkBridge.IS_SAME, 0, 2, 1}, {ForkBridge.DOUBLE, 0, 1, 2}, {ForkBridge.SWAP, 0, 2, 2}, {DROP, 0, 1, 0}, {ForkBridge.READ, 0, 0, 1},
        {WRITE, 3, 1, 0}, {ForkBridge.JUMP, BEHIND, 0, 0}, {ForkBridge.JUMP_IF_ZERO, BEHIND, 1, 0}, {ForkBridge.CALLER, 0, 0, 1},
        {ForkBridge.VALUE, 0, 0, 1}, {ForkBridge.INPUT, 0, 0, 1}, {ForkBridge.COINS, 0, 1, 1}, {ForkBridge.PUT, 0, 1, 0},
        {ForkBridge.GET, 0, 0, 1}, {ForkBridge.CALL, 0, 3, 1}, {ForkBridge.LOG, 0, 1, 0}, {ForkBridge.MAKE, 0, 1, 1}};

    public static void main(String[] args) {
        CHECKS.sentence("it has a heap of up to 16 numbers, empty at first, and 16 memory cells, 0 at first.");
        CHECKS.sentence("A call ends badly and uses up all its gas, if it cannot pay for a step, takes more from its heap than is there, or pushes a 17th number.");
        for (int[] o : GOING_ON) {
            fewNumbers(o);
            manyNumbers(o);
            whatIsLeft(o);
            whatLiesBeneath(o);
        }
        endings();
        emptyAtFirst();
        sixteenOfEach();
        CHECKS.end();
    }

    /** So many zeros, the operation, and some steps more. */
    private static Lab run(int zeros, int[] o, int drops, int... more) {
        Lab lab = new Lab();
        for (int n = 0; n < zeros; n++) {
            lab.x.step(0, PUSH, 0);
        }
        lab.x.step(0, o[0], o[1] == BEHIND ? zeros + 1 : o[1]);
        for (int n = 0; n < drops; n++) {
            lab.x.step(0, DROP, 0);
        }
        Lab.program(lab.x, 0, more);
        return lab.call(100, 7, 42, 20 + GAS);
    }

    private static void well(String what, Lab lab) {
        CHECKS.yes(what + " ends well", lab.well());
        CHECKS.yes(what + " has gas left", lab.gas() < GAS);
    }

    private static void badly(String what, Lab lab) {
        CHECKS.no(what + " ends well", lab.well());
        CHECKS.same(what + " uses up its gas", lab.gas(), GAS);
        CHECKS.same(what + " gives the value back", lab.coins(6), 100);
    }

    private static void fewNumbers(int[] o) {
        for (int n = 0; n < o[2]; n++) {
            badly(n + " numbers for " + o[0], run(n, o, 0));
        }
        well(o[2] + " numbers for " + o[0], run(o[2], o, 0));
    }

    private static void manyNumbers(int[] o) {
        for (int n = 13; n <= 16; n++) {
            if (n - o[2] + o[3] <= 16) {
                well(n + " numbers for " + o[0], run(n, o, 0));
            } else {
                badly(n + " numbers for " + o[0], run(n, o, 0));
            }
        }
    }

    /** Behind it there are as many numbers as it does not take, and those that it pushes: so many can be dropped. */
    private static void whatIsLeft(int[] o) {
        for (int n = o[2]; n <= o[2] + 3; n++) {
            int left = n - o[2] + o[3];
            well(left + " numbers behind " + o[0], run(n, o, left));
            badly("one more than is left behind " + o[0], run(n, o, left + 1));
        }
    }

    private static void whatLiesBeneath(int[] o) {
        Lab lab = new Lab();
        Lab.program(lab.x, 0, PUSH, 71, PUSH, 72);
        for (int n = 0; n < o[2]; n++) {
            lab.x.step(0, PUSH, 0);
        }
        lab.x.step(0, o[0], o[1] == BEHIND ? 2 + o[2] + 1 : o[1]);
        for (int n = 0; n < o[3]; n++) {
            lab.x.step(0, DROP, 0);
        }
        Lab.program(lab.x, 0, WRITE, 0, WRITE, 1);
        lab.call(100, 7, 42, 20 + GAS);
        CHECKS.same("beneath what " + o[0] + " takes and pushes", lab.slot(0) * 100 + lab.slot(1), 7271);
    }

    private static void endings() {
        for (int n = 0; n <= 16; n++) {
            Lab stop = run(n, new int[] {ForkBridge.STOP, 0}, 0);
            CHECKS.yes("STOP with " + n, stop.well());
            CHECKS.same("STOP with " + n + " costs nothing", stop.gas(), 3 * n);
            Lab fail = run(n, new int[] {ForkBridge.FAIL, 0}, 0);
            CHECKS.no("FAIL with " + n, fail.well());
            CHECKS.same("FAIL with " + n + " leaves its gas", fail.gas(), 3 * n);
            Lab end = run(n, new int[] {ForkBridge.END, 0}, 0);
            CHECKS.same("END with " + n, end.well() ? 1 : 0, n == 0 ? 0 : 1);
            CHECKS.same("coins of an account that ended with " + n, end.coins(6), n == 0 ? 100 : 0);
            CHECKS.same("behind the last step with " + n, n == 0 || run(n - 1, new int[] {PUSH, 0}, 0).well() ? 1 : 0, 1);
        }
        CHECKS.same("END without a number uses up all", run(0, new int[] {ForkBridge.END, 0}, 0).gas(), GAS);
        badly("a 17th number", run(16, new int[] {PUSH, 0}, 0));
    }

    private static void emptyAtFirst() {
        badly("DROP on an empty heap", run(0, new int[] {DROP, 0}, 0));
        badly("a jump that takes from an empty heap", new Lab().program(0, ForkBridge.JUMP_IF_ZERO, 20).call(100, 7, 42, 20 + GAS));
        badly("a jump that takes from an empty heap, to the next step", new Lab().program(0, ForkBridge.JUMP_IF_ZERO, 1).call(100, 7, 42, 20 + GAS));
        // The outer call has 16 numbers, the inner one none of them: the contract calls itself, and then only drops.
        Lab inner = new Lab().program(0, ForkBridge.INPUT, 0, ForkBridge.JUMP_IF_ZERO, 9, PUSH, 1, PUSH, 1, PUSH, 1, PUSH, 6, PUSH, 0, PUSH, 0, ForkBridge.CALL, 0,
            DROP, 0, DROP, 0);
        inner.call(100, 0, 1, 20 + GAS);
        CHECKS.yes("the outer call ends well", inner.well());
        int outer = 2 + 5 + 6 * 3 + 40;
        int given = GAS - outer - (GAS - outer) / 4;
        CHECKS.same("the inner one drops from an empty heap, and uses up its gas", inner.gas(), outer + given + 2 + 2);
    }

    private static void sixteenOfEach() {
        int[][] pushing = {{PUSH, 1}, {ForkBridge.CALLER, 0}, {ForkBridge.VALUE, 0}, {ForkBridge.INPUT, 0}, {ForkBridge.READ, 0}, {ForkBridge.GET, 0}};
        for (int[] p : pushing) {
            for (int count = 15; count <= 17; count++) {
                Lab lab = new Lab();
                for (int n = 0; n < count; n++) {
                    lab.x.step(0, p[0], p[1]);
                }
                lab.call(0, 0, 0, 20 + GAS);
                CHECKS.same(count + " numbers by " + p[0], lab.well() ? 1 : 0, count <= 16 ? 1 : 0);
            }
        }
        Lab doubles = new Lab().program(0, PUSH, 1);
        for (int n = 0; n < 15; n++) {
            doubles.x.step(0, ForkBridge.DOUBLE, 0);
        }
        CHECKS.yes("16 numbers by DOUBLE", doubles.call(0, 0, 0, 20 + GAS).well());
    }
}
