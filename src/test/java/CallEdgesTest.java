/** Calls within calls: how deep, with how many coins, with how much gas, and what is undone. */
public final class CallEdgesTest {
    private static final Checks CHECKS = new Checks("CallEdgesTest");
    private static final int PUSH = ForkBridge.PUSH;
    private static final int WRITE = ForkBridge.WRITE;
    private static final int CALL = ForkBridge.CALL;
    private static final int LOG = ForkBridge.LOG;
    private static final int DROP = ForkBridge.DROP;
    private static final int FAIL = ForkBridge.FAIL;
    private static final int END = ForkBridge.END;
    private static final int PRICE = 9;

    public static void main(String[] args) {
        order();
        depth();
        depthOfEachCall();
        coins();
        coinsOfItself();
        gas();
        whatComesBack();
        answers();
        undoneWithin();
        undoneAround();
        undoneInDeepCalls();
        ends();
        endsWithCallsGoingOn();
        CHECKS.end();
    }

    private static int[] steps(int... steps) {
        return steps;
    }

    /** Person 0 makes contracts of the programs 0 (at 6, 100 coins), 1 (at 9, 30 coins) and 2 (at 12, 10 coins); person 1 calls the first. */
    private static Lab three(int[] zero, int[] one, int[] two, int input, int gas) {
        Lab lab = new Lab().program(0, zero).program(1, one).program(2, two);
        lab.x.submit(0, 0, 0, 16, 100, 0, 20, 10, 0);
        lab.x.submit(0, 0, 1, 17, 30, 0, 20, 10, 0);
        lab.x.submit(0, 0, 2, 18, 10, 0, 20, 10, 0);
        lab.x.submit(0, 1, 0, 6, 7, input, gas, 10, 0);
        lab.x.make(0, 0, 5, 1);
        lab.result = lab.x.transactionAt(0, 1, 3);
        return lab;
    }

    private static Lab two(int[] zero, int[] one) {
        return three(zero, one, steps(), 0, 540);
    }

    private static void order() {
        CHECKS.sentence("CALL takes an input, a value, and an account (the number modulo 16), in this order, the input uppermost.");
        Lab lab = two(steps(PUSH, 9, PUSH, 20, PUSH, 77, CALL, 0),
            steps(ForkBridge.INPUT, 0, WRITE, 0, ForkBridge.VALUE, 0, WRITE, 1, ForkBridge.CALLER, 0, WRITE, 2));
        CHECKS.same("input", lab.x.slot(0, 1, 9, 0), 77);
        CHECKS.same("value", lab.x.slot(0, 1, 9, 1), 20);
        CHECKS.same("caller", lab.x.slot(0, 1, 9, 2), 6);
        CHECKS.same("its slots are its own", lab.slot(0) + lab.slot(1) + lab.slot(2), 0);
        CHECKS.same("coins of the caller", lab.coins(6), 87);
        CHECKS.same("coins of the called", lab.coins(9), 50);
    }

    /** Calls itself with its input and 1 more, and logs the answer: the deepest one first. */
    private static void depth() {
        CHECKS.sentence("With a depth of 4 (the first call has the depth 1), or fewer coins than the value in the own account, 0 is pushed.");
        Lab lab = new Lab().program(0, ForkBridge.INPUT, 0, PUSH, 1, ForkBridge.ADD, 0, ForkBridge.PUT, 0,
            PUSH, 6, PUSH, 0, ForkBridge.GET, 0, CALL, 0, LOG, 0, ForkBridge.GET, 0, LOG, 0);
        lab.call(0, 0, 0, 580);
        int[] due = {6, 406, 106, 306, 106, 206, 106, 106};
        CHECKS.yes("well", lab.well());
        CHECKS.same("four calls", lab.events(), due.length);
        for (int place = 0; place < due.length; place++) {
            CHECKS.same("event " + place, lab.x.eventAt(0, 1, place), due[place]);
        }
    }

    /** Contracts of one program in a ring, each of which calls the next: at the depth 4 even a person is not called. */
    private static void depthOfEachCall() {
        for (int target : new int[] {2, 6, 9, 12}) {
            Lab lab = three(steps(PUSH, 9, PUSH, 1, PUSH, 1, CALL, 0, LOG, 0), steps(PUSH, 12, PUSH, 2, PUSH, 2, CALL, 0, LOG, 0),
                steps(ForkBridge.INPUT, 0, PUSH, 3, ForkBridge.IS_SAME, 0, ForkBridge.JUMP_IF_ZERO, 10,
                    PUSH, target, PUSH, 3, PUSH, 4, CALL, 0, LOG, 0, ForkBridge.STOP, 0,
                    PUSH, 12, PUSH, 3, PUSH, 3, CALL, 0, LOG, 0), 0, 540);
            CHECKS.yes("well", lab.well());
            CHECKS.same("four calls", lab.events(), 4);
            CHECKS.same("0 at the depth 4", lab.x.eventAt(0, 1, 0), 12);
            CHECKS.same("1 at the depth 3", lab.x.eventAt(0, 1, 1), 112);
            CHECKS.same("1 at the depth 2", lab.x.eventAt(0, 1, 2), 109);
            CHECKS.same("1 at the depth 1", lab.x.eventAt(0, 1, 3), 106);
            CHECKS.same("no coins of the last went", lab.coins(12), 12);
            CHECKS.same("nor came there", lab.coins(2), 10000);
        }
        Lab three = three(steps(PUSH, 9, PUSH, 1, PUSH, 1, CALL, 0, LOG, 0), steps(PUSH, 12, PUSH, 2, PUSH, 2, CALL, 0, LOG, 0),
            steps(PUSH, 2, PUSH, 3, PUSH, 4, CALL, 0, LOG, 0), 0, 540);
        CHECKS.same("1 at the depth 3", three.x.eventAt(0, 1, 0), 112);
        CHECKS.same("the coins went", three.coins(2), 10003);
    }

    private static void coins() {
        CHECKS.sentence("or fewer coins than the value in the own account, 0 is pushed.");
        for (int value : new int[] {0, 1, 106, 107, 108, 9999}) {
            Lab lab = new Lab().program(0, PUSH, 2, PUSH, value, PUSH, 0, CALL, 0, PUSH, 1, ForkBridge.ADD, 0, WRITE, 0).call(100, 7, 0, 580);
            boolean enough = value <= 107;
            CHECKS.yes("it goes on in any case", lab.well());
            CHECKS.same("the answer for " + value + ", and 1", lab.slot(0), enough ? 2 : 1);
            CHECKS.same("coins of the person with " + value, lab.coins(2), enough ? 10000 + value : 10000);
            CHECKS.same("own coins with " + value, lab.coins(6), enough ? 107 - value : 107);
            CHECKS.same("gas with " + value, lab.gas(), 9 + 40 + 3 + 3 + 100);
        }
        Lab poor = two(steps(PUSH, 9, PUSH, 108, PUSH, 0, CALL, 0, LOG, 0), steps(PUSH, 5, LOG, 0));
        CHECKS.same("with fewer coins the program does not run", poor.events(), 1);
        CHECKS.same("0 is pushed", poor.x.eventAt(0, 1, 0), 6);
        CHECKS.same("no gas is used for it", poor.gas(), 49 + 20);
        Lab all = two(steps(PUSH, 9, PUSH, 107, PUSH, 0, CALL, 0, LOG, 0), steps(PUSH, 5, LOG, 0));
        CHECKS.same("with just the coins it does", all.x.eventAt(0, 1, 0), 509);
        CHECKS.same("1 is pushed", all.x.eventAt(0, 1, 1), 106);
        CHECKS.same("none are left", all.coins(6), 0);
    }

    private static void coinsOfItself() {
        // It calls itself with all its coins: they stay, whether that ends well or badly.
        for (int ending : new int[] {ForkBridge.STOP, FAIL}) {
            Lab lab = new Lab().program(0, ForkBridge.INPUT, 0, ForkBridge.JUMP_IF_ZERO, 8, PUSH, 6, PUSH, 107, PUSH, 0, CALL, 0, WRITE, 0, ForkBridge.STOP, 0,
                ForkBridge.VALUE, 0, WRITE, 1, ending, 0);
            lab.call(100, 7, 1, 580);
            CHECKS.same("coins", lab.coins(6), 107);
            CHECKS.same("the answer", lab.slot(0), ending == FAIL ? 0 : 1);
            CHECKS.same("its value", lab.slot(1), ending == FAIL ? 0 : 107);
        }
    }

    private static void gas() {
        CHECKS.sentence("Otherwise the value goes to the account, and its program, if it has one, runs in a call with the gas that is left less a quarter of it, rounded down;");
        for (int left = 0; left <= 40; left++) {
            Lab lab = three(steps(PUSH, 9, PUSH, 0, PUSH, 0, CALL, 0), steps(ForkBridge.JUMP, 0), steps(), 0, 20 + 49 + left);
            CHECKS.yes("the outer call ends well with " + left, lab.well());
            CHECKS.same("the inner one uses up what it has of " + left, lab.gas(), 49 + left - left / 4);
        }
        for (int needed = 1; needed <= 12; needed++) {
            // The inner call needs 3 for each push; the outer one must have so much that it has that.
            int[] pushes = new int[2 * needed];
            int enough = 0;
            while (enough - enough / 4 < 3 * needed) {
                enough++;
            }
            Lab just = three(steps(PUSH, 9, PUSH, 0, PUSH, 0, CALL, 0), pushes, steps(), 0, 20 + 49 + enough);
            CHECKS.same("just enough for " + needed, just.gas(), 49 + 3 * needed);
            Lab less = three(steps(PUSH, 9, PUSH, 0, PUSH, 0, CALL, 0), pushes, steps(), 0, 20 + 49 + enough - 1);
            CHECKS.same("one less for " + needed, less.gas(), 49 + enough - 1 - (enough - 1) / 4);
        }
        Lab deep = three(steps(PUSH, 9, PUSH, 0, PUSH, 0, CALL, 0), steps(PUSH, 12, PUSH, 0, PUSH, 0, CALL, 0), steps(ForkBridge.JUMP, 0), 0, 20 + 49 + 200);
        CHECKS.same("of 200 there are 150, of 101 behind CALL 76", deep.gas(), 49 + 49 + 76);
    }

    private static void whatComesBack() {
        CHECKS.sentence("what it leaves comes back;");
        Lab well = two(steps(PUSH, 9, PUSH, 0, PUSH, 0, CALL, 0), steps(PUSH, 1));
        CHECKS.same("of one that ends well", well.gas(), 49 + 3);
        Lab fail = two(steps(PUSH, 9, PUSH, 0, PUSH, 0, CALL, 0), steps(PUSH, 1, FAIL, 0));
        CHECKS.same("of one that fails", fail.gas(), 49 + 3);
        Lab none = two(steps(PUSH, 3, PUSH, 0, PUSH, 0, CALL, 0), steps());
        CHECKS.same("of an account without a program", none.gas(), 49);
        Lab empty = two(steps(PUSH, 9, PUSH, 0, PUSH, 0, CALL, 0), steps());
        CHECKS.same("of a program without steps", empty.gas(), 49);
        Lab broken = two(steps(PUSH, 9, PUSH, 0, PUSH, 0, CALL, 0), steps(DROP, 0));
        CHECKS.same("nothing of one that uses up all", broken.gas(), 49 + 491 - 20 - (491 - 20) / 4);
    }

    private static void answers() {
        CHECKS.sentence("1 is pushed if it ends well, otherwise 0, and the value is back.");
        int[][] inner = {steps(), steps(ForkBridge.STOP, 0), steps(FAIL, 0), steps(DROP, 0), steps(ForkBridge.JUMP, 0), steps(PUSH, 2, END, 0)};
        boolean[] well = {true, true, false, false, false, true};
        for (int n = 0; n < inner.length; n++) {
            Lab lab = two(steps(PUSH, 9, PUSH, 20, PUSH, 0, CALL, 0, PUSH, 2, ForkBridge.ADD, 0, LOG, 0), inner[n]);
            CHECKS.yes("the outer one ends well", lab.well());
            CHECKS.same("the answer and 2, of " + n, lab.x.eventAt(0, 1, 0), well[n] ? 306 : 206);
            CHECKS.same("coins of the caller, of " + n, lab.coins(6), well[n] ? 87 : 107);
            CHECKS.same("coins of the called, of " + n, lab.coins(9), n == 5 ? 0 : well[n] ? 50 : 30);
        }
    }

    private static final String UNDONE = "All that a call did, and calls within it, is undone when it ends badly, events and what was to be given back too, but not the gas.";

    /** What a contract does, and leaves nothing on its heap; the account 9 has 9 and 12 for its first two addresses. */
    private static final int[][] EFFECTS = {
        {PUSH, 5, WRITE, 3},
        {PUSH, 8, LOG, 0},
        {PUSH, 3, PUSH, 30, PUSH, 0, CALL, 0, DROP, 0},
        {PUSH, 15, PUSH, 1, PUSH, 0, CALL, 0, DROP, 0},
        {PUSH, 1, ForkBridge.MAKE, 2, DROP, 0},
        {PUSH, 1, ForkBridge.MAKE, 2, PUSH, 1, ForkBridge.MAKE, 2, ForkBridge.ADD, 0, DROP, 0},
        {PUSH, 7, PUSH, 0, PUSH, 0, CALL, 0, DROP, 0},
    };
    /** The account 7, which the last effect calls, ends itself and is burned. */
    private static final int[] ENDING = {PUSH, 4, LOG, 0, PUSH, 7, END, 0};
    private static final int[][] BAD_ENDS = {{FAIL, 0}, {DROP, 0}, {ForkBridge.MUL, 0}, {ForkBridge.JUMP, 0}, {ForkBridge.CALL, 0}};

    private static int[] joined(int[]... parts) {
        int count = 0;
        for (int[] part : parts) {
            count += part.length;
        }
        int[] all = new int[count];
        int place = 0;
        for (int[] part : parts) {
            System.arraycopy(part, 0, all, place, part.length);
            place += part.length;
        }
        return all;
    }

    /** Contracts at 6 (100 coins), 9 (30 coins) and 7 (10 coins, which ends itself); person 1 calls the first in the block 2. */
    private static Lab later(int[] six, int[] nine) {
        Lab lab = new Lab().program(0, six).program(1, nine).program(2, PUSH, 1, WRITE, 0).program(3, ENDING);
        lab.x.submit(0, 0, 0, 16, 100, 0, 20, 10, 0);
        lab.x.submit(0, 0, 1, 17, 30, 0, 20, 10, 0);
        lab.x.submit(0, 2, 0, 19, 10, 0, 20, 10, 0);
        lab.x.make(0, 0, 5, 1);
        lab.x.submit(0, 1, 0, 6, 7, 0, 600, 10, 0);
        lab.x.make(0, 1, 5, 1);
        lab.result = lab.x.transactionAt(0, 2, 0);
        return lab;
    }

    /** Only the sender (who paid for the gas), the producer, and the account that may have changed differ from the block before. */
    private static boolean isAsBefore(Lab lab, int except) {
        boolean same = lab.x.burned(0, 2) - lab.x.burned(0, 1) == lab.x.base(0, 2) * lab.x.used(0, 2);
        for (int account = 0; account < 16; account++) {
            same &= account == 1 || account == 5 || account == except || lab.x.leaf(0, 2, account) == lab.x.leaf(0, 1, account);
        }
        return same;
    }

    private static final int[] CALL_NINE = {PUSH, 9, PUSH, 2, PUSH, 0, CALL, 0, LOG, 0};

    private static void undoneWithin() {
        CHECKS.sentence(UNDONE);
        for (int[] effect : EFFECTS) {
            String what = java.util.Arrays.toString(effect);
            Lab well = later(CALL_NINE, effect);
            CHECKS.no("kept: " + what, isAsBefore(well, 6) && Look.countEvents(well.x, 0, 2) == 1);
            CHECKS.same("the value went: " + what, well.x.coins(0, 2, 6), 105);
            for (int[] bad : BAD_ENDS) {
                Lab lab = later(CALL_NINE, joined(effect, bad));
                CHECKS.yes("the outer call ends well: " + what, lab.well());
                CHECKS.yes("undone: " + what, isAsBefore(lab, 6));
                CHECKS.same("the value is back: " + what, lab.x.coins(0, 2, 6), 107);
                CHECKS.same("slots of the outer one: " + what, lab.x.slot(0, 2, 6, 3), 0);
                CHECKS.same("events: " + what, Look.countEvents(lab.x, 0, 2), 1);
                CHECKS.same("the event of the outer one: " + what, lab.x.eventAt(0, 2, 0), 6);
                CHECKS.same("bloom: " + what, lab.x.bloom(0, 2), 1 | 1 << 11);
                CHECKS.yes("the gas is not back: " + what, lab.gas() > 49 + 20);
                CHECKS.same("the sender paid for it: " + what, lab.x.coins(0, 1, 1) - lab.x.coins(0, 2, 1), 7 + lab.x.base(0, 2) * lab.x.used(0, 2));
            }
        }
    }

    /** The same in the first call: then nothing at all is kept. */
    private static void undoneAround() {
        CHECKS.sentence(UNDONE);
        for (int[] effect : EFFECTS) {
            for (int[] bad : BAD_ENDS) {
                Lab first = later(joined(effect, bad), steps());
                String what = java.util.Arrays.toString(joined(effect, bad));
                CHECKS.no("badly: " + what, first.well());
                CHECKS.yes("undone: " + what, isAsBefore(first, 1));
                CHECKS.same("no events: " + what, Look.countEvents(first.x, 0, 2) + first.x.bloom(0, 2), 0);
                CHECKS.same("the nonce of the sender stays: " + what, first.x.codeOf(0, 2, 1), 10);
                Lab outer = later(joined(CALL_NINE, bad), effect);
                CHECKS.no("the outer one ends badly: " + what, outer.well());
                CHECKS.yes("what the inner one did well is undone: " + what, isAsBefore(outer, 1));
                CHECKS.same("its events too: " + what, Look.countEvents(outer.x, 0, 2) + outer.x.bloom(0, 2), 0);
            }
        }
    }

    private static void undoneInDeepCalls() {
        CHECKS.sentence("calls that fail and undo just what they did;");
        // 6 writes 1 and calls itself; the inner call sees that, writes 2, calls itself; the third one writes 3 and fails.
        Lab lab = new Lab().program(0, ForkBridge.INPUT, 0, PUSH, 1, ForkBridge.ADD, 0, ForkBridge.PUT, 0,
            ForkBridge.READ, 0, LOG, 0, ForkBridge.GET, 0, WRITE, 0, ForkBridge.GET, 0, PUSH, 3, ForkBridge.IS_LESS, 0, ForkBridge.JUMP_IF_ZERO, 18,
            PUSH, 6, PUSH, 0, ForkBridge.GET, 0, CALL, 0, ForkBridge.STOP, 0, FAIL, 0);
        lab.call(0, 0, 0, 580);
        CHECKS.yes("well", lab.well());
        CHECKS.same("what the second one wrote stays", lab.slot(0), 2);
        CHECKS.same("the events of two calls", lab.events(), 2);
        CHECKS.same("the first one saw 0", lab.x.eventAt(0, 1, 0), 6);
        CHECKS.same("the second one saw 1", lab.x.eventAt(0, 1, 1), 106);
        // The outer one clears a slot; the inner one clears another one, and ends badly: the first 40 are given back.
        int[] clears = {PUSH, 1, WRITE, 0, PUSH, 0, WRITE, 0};
        int gross = 20 + 136 + 49 + 2 + 136;
        int[] calls = {PUSH, 9, PUSH, 0, PUSH, 0, CALL, 0, DROP, 0};
        CHECKS.same("40 of the outer one ahead", later(joined(clears, calls), joined(clears, steps(FAIL, 0))).result / 100000, gross - 40);
        CHECKS.same("40 of the outer one behind", later(joined(calls, clears), joined(clears, steps(FAIL, 0))).result / 100000, gross - 40);
        CHECKS.same("none at all", later(joined(calls, clears, steps(FAIL, 0)), clears).result / 100000, gross);
        CHECKS.same("of both, at most a fifth", later(joined(calls, clears), clears).result / 100000, gross - gross / 5);
    }

    private static void ends() {
        CHECKS.sentence("END (20) takes an account, the number modulo 16: the own account's coins go there (they are burned, if it is itself), its program and slots are gone, 60 are given back, and the call ends well");
        for (int heir = 0; heir < 16; heir++) {
            for (int coins : new int[] {0, 100}) {
                Lab lab = new Lab().program(0, PUSH, 5, WRITE, 0, PUSH, 6, WRITE, 1, PUSH, 7, WRITE, 2, PUSH, 8, WRITE, 3, PUSH, heir, END, 0, FAIL, 0);
                lab.call(coins, 0, 0, 580);
                int sent = heir == 0 ? -coins - 9 * 20 : heir == 1 ? -9 * (lab.result / 100000) : 0;
                CHECKS.yes("well", lab.well());
                CHECKS.same("coins of " + heir, lab.coins(heir), heir == 6 ? 0 : lab.x.coins(0, 0, heir) + sent + coins);
                CHECKS.same("own coins", lab.coins(6), 0);
                CHECKS.same("burned", lab.x.burned(0, 1), PRICE * lab.x.used(0, 1) + (heir == 6 ? coins : 0));
                CHECKS.same("the nonce stays, the program is gone", lab.x.codeOf(0, 1, 6), 10);
                CHECKS.same("its slots are gone", lab.slot(0) + lab.slot(1) + lab.slot(2) + lab.slot(3), 0);
                CHECKS.same("60 are given back", lab.result / 100000, 20 + 412 + 23 - 60);
            }
        }
        Lab inner = later(CALL_NINE, joined(steps(PUSH, 5, WRITE, 0), steps(PUSH, 4, END, 0, FAIL, 0)));
        CHECKS.same("1 for a call that ended its account", inner.x.eventAt(0, 2, 0), 106);
        CHECKS.same("its coins", inner.x.coins(0, 2, 4), 10032);
        CHECKS.same("its slot", inner.x.slot(0, 2, 9, 0), 0);
        inner.x.submit(0, 1, 1, 9, 3, 0, 20, 10, 0);
        inner.x.make(0, 2, 5, 1);
        CHECKS.same("a later transaction runs no program", inner.x.transactionAt(0, 3, 0) % 100, 41);
        CHECKS.same("its value stays there", inner.x.coins(0, 3, 9), 3);
    }

    /** With the input 0 it ends itself; with the input 1 it calls itself so, and goes on with the steps that are told. */
    private static Lab goesOn(int... steps) {
        return new Lab().program(0, joined(steps(ForkBridge.INPUT, 0, ForkBridge.JUMP_IF_ZERO, 8, PUSH, 6, PUSH, 0, PUSH, 0, CALL, 0,
            DROP, 0, ForkBridge.JUMP, 10, PUSH, 2, END, 0), steps)).call(100, 7, 1, 580);
    }

    private static void endsWithCallsGoingOn() {
        CHECKS.sentence("(other calls of the account that are going on go on with the program that they have, and can write slots all the same)");
        Lab writes = goesOn(PUSH, 5, WRITE, 1);
        CHECKS.yes("well", writes.well());
        CHECKS.same("a slot", writes.slot(1), 5);
        CHECKS.same("no program", writes.x.codeOf(0, 1, 6), 10);
        CHECKS.same("the coins are gone", writes.coins(2), 10107);
        Lab sees = goesOn(PUSH, 6, ForkBridge.COINS, 0, LOG, 0, ForkBridge.CALLER, 0, LOG, 0, ForkBridge.VALUE, 0, LOG, 0);
        CHECKS.same("it has no coins", sees.x.eventAt(0, 1, 0), 6);
        CHECKS.same("its caller", sees.x.eventAt(0, 1, 1), 106);
        CHECKS.same("its value", sees.x.eventAt(0, 1, 2), 706);
        Lab again = goesOn(PUSH, 6, PUSH, 0, PUSH, 0, CALL, 0, LOG, 0);
        CHECKS.same("a call of it runs no program, and is well", again.x.eventAt(0, 1, 0), 106);
        CHECKS.same("one event", again.events(), 1);
        Lab makes = goesOn(PUSH, 0, ForkBridge.MAKE, 3, LOG, 0);
        CHECKS.same("it makes a contract", makes.x.codeOf(0, 1, 12), 14);
        CHECKS.same("with its nonce", makes.x.codeOf(0, 1, 6), 20);
        CHECKS.same("whose address is told", makes.x.eventAt(0, 1, 0), 1206);
        Lab own = goesOn(PUSH, 0, ForkBridge.MAKE, 3, DROP, 0, PUSH, 0, ForkBridge.MAKE, 3, LOG, 0);
        CHECKS.same("its own address is not free: its nonce is not 0", own.x.eventAt(0, 1, 0), 6);
        Lab twice = goesOn(ForkBridge.READ, 0, ForkBridge.READ, 0, ForkBridge.READ, 0, ForkBridge.READ, 0, ForkBridge.READ, 0, PUSH, 3, END, 0);
        CHECKS.yes("it can end once more", twice.well());
        CHECKS.same("without coins", twice.coins(3), 10000);
        int gross = 20 + 2 + 5 + 49 + (2 + 5 + 23) + 2 + 5 + 100 + 23;
        CHECKS.same("and gives back, with the other one, a fifth", twice.result / 100000, gross - gross / 5);
        Lab read = goesOn(ForkBridge.READ, 1, LOG, 0);
        CHECKS.same("its slots are 0", read.x.eventAt(0, 1, 0), 6);
        Lab fails = goesOn(FAIL, 0);
        CHECKS.same("if it fails, the end is undone", fails.x.codeOf(0, 1, 6), 11);
        CHECKS.same("and its coins are there", fails.coins(6), 100);
    }
}
