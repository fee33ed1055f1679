/** Numbers that wrap around, the least and the greatest ones, and jumps to the first step, the last one, and behind it. */
public final class NumberEdgesTest {
    private static final Checks CHECKS = new Checks("NumberEdgesTest");
    private static final int PUSH = ForkBridge.PUSH;
    private static final int ADD = ForkBridge.ADD;
    private static final int SUB = ForkBridge.SUB;
    private static final int MUL = ForkBridge.MUL;
    private static final int LESS = ForkBridge.IS_LESS;
    private static final int SAME = ForkBridge.IS_SAME;
    private static final int WRITE = ForkBridge.WRITE;
    private static final int JUMP = ForkBridge.JUMP;
    private static final int JUMP_IF_ZERO = ForkBridge.JUMP_IF_ZERO;
    private static final int DROP = ForkBridge.DROP;

    public static void main(String[] args) {
        arithmetic();
        order();
        topics();
        accountsOfNumbers();
        inputsAndValues();
        arguments();
        jumpTargets();
        jumpsIfZero();
        programEnds();
        programsAreTheSame();
        CHECKS.end();
    }

    /** The steps that put a number on the heap: what no PUSH takes is a product and a sum. */
    private static void push(ForkBridge x, int number) {
        if (number <= 9999) {
            x.step(0, PUSH, number);
        } else {
            Lab.program(x, 0, PUSH, number / 1000, PUSH, 1000, MUL, 0, PUSH, number % 1000, ADD, 0);
        }
    }

    private static int answer(int a, int b, int operation) {
        Lab lab = new Lab();
        push(lab.x, a);
        push(lab.x, b);
        Lab.program(lab.x, 0, operation, 0, WRITE, 0, PUSH, 1, WRITE, 1);
        lab.call(0, 0, 0, 580);
        CHECKS.same("it goes on", lab.slot(1), 1);
        return lab.slot(0);
    }

    private static void arithmetic() {
        CHECKS.sentence("Numbers are from 0 to 999999;");
        CHECKS.sentence("sums, differences and products are taken modulo 1000000.");
        int[] numbers = {0, 1, 2, 999, 1000, 1001, 9999, 499999, 500000, 500001, 999998, 999999};
        for (int a : numbers) {
            for (int b : numbers) {
                CHECKS.same(a + " + " + b, answer(a, b, ADD), a + b > 999999 ? a + b - 1000000 : a + b);
                CHECKS.same(a + " - " + b, answer(a, b, SUB), a - b < 0 ? a - b + 1000000 : a - b);
                CHECKS.same(a + " * " + b, answer(a, b, MUL), Long.parseLong(lastSix(Long.toString((long) a * b))));
            }
        }
        CHECKS.same("999999 + 1", answer(999999, 1, ADD), 0);
        CHECKS.same("0 - 1", answer(0, 1, SUB), 999999);
        CHECKS.same("999999 * 999999", answer(999999, 999999, MUL), 1);
        CHECKS.same("1000 * 1000", answer(1000, 1000, MUL), 0);
    }

    private static String lastSix(String digits) {
        return digits.length() > 6 ? digits.substring(digits.length() - 6) : digits;
    }

    private static void order() {
        CHECKS.sentence("ADD (3), SUB (3), MUL (5), IS_LESS (3), IS_SAME (3): take the upper number b and the next one a, and push a + b, a - b, a * b, or 1 or 0 for whether a is less than b, or the same;");
        int[] numbers = {0, 1, 5, 6, 999998, 999999};
        for (int a : numbers) {
            for (int b : numbers) {
                CHECKS.same(a + " is less than " + b, answer(a, b, LESS), a < b ? 1 : 0);
                CHECKS.same(a + " is " + b, answer(a, b, SAME), a == b ? 1 : 0);
                CHECKS.same(a + " and " + b + " exchanged: the upper one", answer(a, b, ForkBridge.SWAP), a);
                CHECKS.same("twice " + b, answer(a, b, ForkBridge.DOUBLE), b);
            }
        }
    }

    private static void topics() {
        CHECKS.sentence("LOG (20) takes a topic, the number modulo 16, and makes an event;");
        int[] numbers = {0, 1, 14, 15, 16, 17, 31, 32, 9999, 999998, 999999};
        for (int number : numbers) {
            Lab lab = new Lab();
            push(lab.x, number);
            lab.x.step(0, ForkBridge.LOG, 0);
            lab.call(0, 0, 0, 580);
            CHECKS.same("topic of " + number, lab.x.eventAt(0, 1, 0), 100 * (number % 16) + 6);
            CHECKS.same("one event", lab.events(), 1);
        }
    }

    /** An account for COINS, CALL and END, each by a number that wraps around. */
    private static void accountsOfNumbers() {
        int[] numbers = {0, 5, 6, 14, 15, 16, 21, 22, 31, 9999, 999984, 999999};
        for (int number : numbers) {
            int account = number % 16;
            CHECKS.sentence("COINS (10) takes an account, the number modulo 16, and pushes its coins modulo 1000000;");
            Lab coins = new Lab();
            push(coins.x, number);
            Lab.program(coins.x, 0, ForkBridge.COINS, 0, WRITE, 0);
            coins.call(100, 7, 0, 580);
            int due = account == 1 ? 10000 - 7 - 9 * 580 : account == 0 ? 10000 - 100 - 9 * 20 : account < 6 ? 10000 : account == 6 ? 107 : account == 15 ? 20000 : 0;
            CHECKS.same("coins of " + number, coins.slot(0), due);
            CHECKS.sentence("CALL takes an input, a value, and an account (the number modulo 16), in this order, the input uppermost.");
            value(number, account);
            CHECKS.sentence("END (20) takes an account, the number modulo 16:");
            Lab end = new Lab();
            push(end.x, number);
            end.x.step(0, ForkBridge.END, 0);
            end.call(100, 7, 0, 580);
            int before = account == 1 ? 10000 - 7 - 9 * (end.result / 100000) : account == 0 ? 10000 - 100 - 9 * 20 : account < 6 ? 10000 : account == 15 ? 20000 : 0;
            CHECKS.same("coins of " + account + " behind END with " + number, end.coins(account), account == 6 ? 0 : before + 107);
            CHECKS.same("burned", end.x.burned(0, 1), 9 * end.x.used(0, 1) + (account == 6 ? 107 : 0));
        }
    }

    private static void value(int number, int account) {
        Lab lab = new Lab();
        push(lab.x, number);
        Lab.program(lab.x, 0, PUSH, 3, PUSH, 0, ForkBridge.CALL, 0, WRITE, 1);
        lab.call(100, 7, 0, 580);
        if (account == 6) {
            CHECKS.same("called by its own number, it keeps all", lab.coins(6), 107);
            return;
        }
        int before = account == 1 ? 10000 - 7 - 9 * (lab.result / 100000) : account == 0 ? 10000 - 100 - 9 * 20 : account < 6 ? 10000 : account == 15 ? 20000 : 0;
        CHECKS.same("the value went to " + account + " by " + number, lab.coins(account), before + 3);
        CHECKS.same("from the own one", lab.coins(6), 104);
        CHECKS.same("1", lab.slot(1), 1);
    }

    private static void inputsAndValues() {
        CHECKS.sentence("A program runs in a call, with an account that it is of (its own one), a caller, a value, an input, and gas;");
        CHECKS.sentence("CALLER (2), VALUE (2), INPUT (2) push these;");
        int[] inputs = {0, 1, 9998, 9999};
        for (int input : inputs) {
            Lab lab = new Lab().program(0, ForkBridge.INPUT, 0, WRITE, 0, ForkBridge.CALLER, 0, WRITE, 1, ForkBridge.VALUE, 0, WRITE, 2);
            lab.call(0, input / 3, input, 580);
            CHECKS.same("input", lab.slot(0), input);
            CHECKS.same("caller", lab.slot(1), 1);
            CHECKS.same("value", lab.slot(2), input / 3);
        }
        Lab all = new Lab().program(0, ForkBridge.VALUE, 0, WRITE, 0).call(0, 10000 - 10 * 122, 0, 122);
        CHECKS.same("all coins beside the gas", all.slot(0), 8780);
        Lab inner = new Lab();
        Lab.program(inner.x, 0, ForkBridge.INPUT, 0, JUMP_IF_ZERO, 5, ForkBridge.INPUT, 0, WRITE, 3, ForkBridge.STOP, 0);
        Lab.program(inner.x, 0, PUSH, 6, PUSH, 0, PUSH, 0, PUSH, 1, SUB, 0, ForkBridge.CALL, 0);
        CHECKS.same("the greatest input of CALL", inner.call(0, 0, 0, 580).slot(3), 999999);
        for (int caller = 0; caller < 6; caller++) {
            ForkBridge x = new ForkBridge();
            Lab.program(x, 0, ForkBridge.CALLER, 0, ForkBridge.LOG, 0);
            x.submit(0, 0, 0, 16, 0, 0, 20, 20, 0);
            x.submit(0, caller, caller == 0 ? 1 : 0, 6, 0, 0, 100, 20, 0);
            x.make(0, 0, 5, 1);
            CHECKS.same("the caller " + caller, x.eventAt(0, 1, 0), 100 * caller + 6);
        }
    }

    private static void arguments() {
        CHECKS.sentence("A step has an operation and an argument.");
        CHECKS.sentence("PUSH (3) the argument, 0 to 9999;");
        for (int number : new int[] {0, 1, 9998, 9999}) {
            CHECKS.same("PUSH of " + number, Lab.of(PUSH, number, WRITE, 0).slot(0), number);
        }
        CHECKS.sentence("READ (20) pushes the slot of the argument, 0 to 3;");
        for (int slot = 0; slot < 4; slot++) {
            Lab lab = Lab.of(PUSH, 11 + slot, WRITE, slot, ForkBridge.READ, slot, WRITE, (slot + 1) % 4);
            CHECKS.same("READ of " + slot, lab.slot((slot + 1) % 4), 11 + slot);
            CHECKS.same("the slot stays", lab.slot(slot), 11 + slot);
        }
        for (int program = 0; program < 8; program++) {
            ForkBridge x = new ForkBridge();
            x.step(program, PUSH, 100 + program);
            x.step(program, WRITE, 0);
            x.submit(0, 0, 0, 16 + program, 0, 0, 20, 20, 0);
            x.submit(0, 1, 0, 6, 0, 0, 300, 20, 0);
            x.make(0, 0, 5, 1);
            CHECKS.same("the program " + program, x.slot(0, 1, 6, 0), 100 + program);
        }
    }

    private static void jumpTargets() {
        CHECKS.sentence("JUMP (5) goes to the step of the argument, 0 to 20;");
        CHECKS.sentence("Programs are 0 to 7, each with up to 20 steps, which are numbered from 0;");
        for (int step = 1; step < 20; step++) {
            // All but the first and the last step fail; the last one of 20 pushes.
            ForkBridge x = new ForkBridge();
            x.step(0, JUMP, step);
            for (int n = 1; n < 20; n++) {
                x.step(0, n == step ? ForkBridge.STOP : ForkBridge.FAIL, 0);
            }
            CHECKS.yes("a jump to " + step, run(x).well());
        }
        ForkBridge behind = new ForkBridge();
        behind.step(0, JUMP, 20);
        for (int n = 1; n < 20; n++) {
            behind.step(0, ForkBridge.FAIL, 0);
        }
        Lab lab = run(behind);
        CHECKS.yes("a jump behind 20 steps ends well", lab.well());
        CHECKS.same("for 5 gas", lab.gas(), 5);
        for (int target = 1; target <= 20; target++) {
            CHECKS.yes("a jump of a program with one step to " + target, Lab.of(JUMP, target).well());
        }
        Lab first = Lab.of(JUMP, 0);
        CHECKS.no("a jump to the step 0", first.well());
        CHECKS.same("goes on until the gas is used up", first.gas(), 560);
        Lab once = new Lab().program(0, JUMP, 2, ForkBridge.STOP, 0, JUMP, 1, ForkBridge.FAIL, 0).call(0, 0, 0, 580);
        CHECKS.yes("a jump back", once.well());
        CHECKS.same("two jumps", once.gas(), 10);
    }

    /** As Lab does, of an object whose programs are written. */
    private static Lab run(ForkBridge x) {
        Lab lab = new Lab(x);
        return lab.call(0, 0, 0, 580);
    }

    private static void jumpsIfZero() {
        CHECKS.sentence("JUMP_IF_ZERO (5) takes the top, and does so if it is 0;");
        for (int number : new int[] {0, 1, 2, 9999, 10000, 999999}) {
            Lab lab = new Lab();
            push(lab.x, number);
            Lab.program(lab.x, 0, JUMP_IF_ZERO, 20, PUSH, 1, WRITE, 0);
            lab.call(0, 0, 0, 580);
            CHECKS.yes("well", lab.well());
            CHECKS.same("goes on behind JUMP_IF_ZERO with " + number, lab.slot(0), number == 0 ? 0 : 1);
        }
        for (int step = 2; step < 20; step++) {
            ForkBridge x = new ForkBridge();
            Lab.program(x, 0, PUSH, 0, JUMP_IF_ZERO, step);
            for (int n = 2; n < 20; n++) {
                x.step(0, n == step ? ForkBridge.STOP : ForkBridge.FAIL, 0);
            }
            CHECKS.yes("to " + step, run(x).well());
        }
        CHECKS.no("to the step 0, for ever", Lab.of(PUSH, 0, JUMP_IF_ZERO, 0).well());
    }

    private static void programEnds() {
        CHECKS.sentence("STOP (0) ends it well, and so does going behind the last step.");
        for (int count = 0; count <= 20; count++) {
            ForkBridge x = new ForkBridge();
            for (int n = 0; n < count; n++) {
                x.step(0, n % 2 == 0 ? PUSH : DROP, 0);
            }
            Lab lab = run(x);
            CHECKS.yes(count + " steps end well", lab.well());
            CHECKS.same("gas of " + count + " steps: all are run", lab.gas(), (count + 1) / 2 * 3 + count / 2 * 2);
        }
        ForkBridge x = new ForkBridge();
        for (int n = 0; n < 19; n++) {
            x.step(0, n % 2 == 0 ? PUSH : DROP, 0);
        }
        x.step(0, ForkBridge.FAIL, 0);
        CHECKS.no("the last of 20 steps is run", run(x).well());
    }

    private static void programsAreTheSame() {
        CHECKS.sentence("they are the same on both chains, and cannot be changed once a transaction was submitted and not refused.");
        for (int chain = 0; chain < 2; chain++) {
            ForkBridge x = new ForkBridge();
            Lab.program(x, 7, ForkBridge.INPUT, 0, WRITE, 3);
            x.submit(chain, 0, 0, 23, 0, 0, 20, 20, 0);
            x.submit(chain, 1, 0, 6, 0, 88, 300, 20, 0);
            x.make(chain, 0, 5, 1);
            CHECKS.same("the program 7 on " + chain, x.slot(chain, 1, 6, 3), 88);
            CHECKS.throwing("a step more", Checks.NO_STATE, () -> x.step(7, PUSH, 0));
            CHECKS.throwing("a step of another program", Checks.NO_STATE, () -> x.step(0, PUSH, 0));
        }
        ForkBridge y = new ForkBridge();
        CHECKS.throwing("one that throws", Checks.NO_ARGUMENT, () -> y.submit(0, 0, 0, 0, 0, 0, 19, 20, 0));
        CHECKS.throwing("one that throws", Checks.NO_INDEX, () -> y.submit(1, 6, 0, 0, 0, 0, 20, 20, 0));
        y.make(0, 0, 0, 1);
        y.upgrade(1, 5);
        y.vote(0, 0, 0, 1);
        y.prune(0);
        CHECKS.same("was not submitted, nor were blocks and votes", y.step(0, PUSH, 0), 1);
        for (int n = 2; n <= 20; n++) {
            CHECKS.same("step " + n, y.step(0, PUSH, n), n);
        }
        CHECKS.throwing("a 21st step", Checks.NO_STATE, () -> y.step(0, PUSH, 0));
        CHECKS.same("another program has room", y.step(1, PUSH, 0), 1);
    }
}
