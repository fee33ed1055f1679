/** Calls within calls, what they undo, and contracts that programs make. */
public final class CallsTest {
    private static final Checks CHECKS = new Checks("CallsTest");
    private static final int PUSH = ForkBridge.PUSH;
    private static final int WRITE = ForkBridge.WRITE;
    private static final int CALL = ForkBridge.CALL;
    private static final int MAKE = ForkBridge.MAKE;
    private static final int PRICE = 9;

    public static void main(String[] args) {
        callsOfAccounts();
        callsOfContracts();
        badCalls();
        whatIsGivenBack();
        eachCallStartsAnew();
        gasOfCalls();
        depth();
        makes();
        makesThatFail();
        makesThatAreUndone();
        madeAddresses();
        CHECKS.end();
    }

    private static void callsOfAccounts() {
        Lab paid = Lab.of(PUSH, 18, PUSH, 50, PUSH, 3, CALL, 0, WRITE, 0);
        CHECKS.same("1 for an account without a program", paid.slot(0), 1);
        CHECKS.same("the value goes to the number modulo 16", paid.coins(2), 10050);
        CHECKS.same("from the own one", paid.coins(6), 57);
        CHECKS.same("CALL costs 40", paid.gas(), 9 + 40 + 100);
        CHECKS.same("all coins can go", Lab.of(PUSH, 2, PUSH, 107, PUSH, 3, CALL, 0).coins(2), 10107);
        Lab poor = Lab.of(PUSH, 2, PUSH, 108, PUSH, 3, CALL, 0, WRITE, 0, PUSH, 1, WRITE, 1);
        CHECKS.yes("fewer coins: it goes on", poor.well());
        CHECKS.same("0 for fewer coins", poor.slot(0), 0);
        CHECKS.same("no coins went", poor.coins(2), 10000);
        CHECKS.same("it goes on", poor.slot(1), 1);
        CHECKS.same("and CALL costs 40", poor.gas(), 9 + 40 + 30 + 103);
        Lab bridge = Lab.of(PUSH, 15, PUSH, 50, PUSH, 3, CALL, 0);
        CHECKS.same("to the bridge", bridge.coins(15), 20050);
        Lab nothing = Lab.of(PUSH, 12, PUSH, 0, PUSH, 3, CALL, 0, WRITE, 0);
        CHECKS.same("1 for an account that is nothing yet", nothing.slot(0), 1);
    }

    /** Person 0 makes contracts of the programs 0, 1 (at 9) and 2 (at 12); person 1 calls the first. */
    private static Lab three(int[] zero, int[] one, int[] two, int gas) {
        Lab lab = new Lab().program(0, zero).program(1, one).program(2, two);
        lab.x.submit(0, 0, 0, 16, 100, 0, 20, 10, 0);
        lab.x.submit(0, 0, 1, 17, 30, 0, 20, 10, 0);
        lab.x.submit(0, 0, 2, 18, 10, 0, 20, 10, 0);
        lab.x.make(0, 0, 5, 1);
        lab.x.submit(0, 1, 0, 6, 7, 42, gas, 10, 0);
        lab.x.make(0, 1, 5, 1);
        lab.result = lab.x.transactionAt(0, 2, 0);
        return lab;
    }

    private static int[] steps(int... steps) {
        return steps;
    }

    private static void callsOfContracts() {
        Lab lab = three(steps(PUSH, 9, PUSH, 20, PUSH, 77, CALL, 0, WRITE, 0),
            steps(ForkBridge.CALLER, 0, WRITE, 0, ForkBridge.VALUE, 0, WRITE, 1, ForkBridge.INPUT, 0, WRITE, 2, PUSH, 5, ForkBridge.LOG, 0),
            steps(), 580);
        CHECKS.yes("well", lab.well());
        CHECKS.same("caller", lab.x.slot(0, 2, 9, 0), 6);
        CHECKS.same("value", lab.x.slot(0, 2, 9, 1), 20);
        CHECKS.same("input", lab.x.slot(0, 2, 9, 2), 77);
        CHECKS.same("coins", lab.x.coins(0, 2, 9), 50);
        CHECKS.same("the answer", lab.x.slot(0, 2, 6, 0), 1);
        CHECKS.same("event of the inner one", lab.x.eventAt(0, 2, 0), 509);
        CHECKS.same("gas", lab.gas(), 9 + 40 + 3 * 102 + 23 + 100);
    }

    private static void badCalls() {
        Lab lab = three(steps(PUSH, 1, ForkBridge.LOG, 0, PUSH, 9, PUSH, 20, PUSH, 77, CALL, 0, WRITE, 0, PUSH, 3, ForkBridge.LOG, 0),
            steps(PUSH, 5, WRITE, 0, PUSH, 0, WRITE, 0, PUSH, 2, ForkBridge.LOG, 0, ForkBridge.FAIL, 0),
            steps(), 580);
        CHECKS.yes("the outer one ends well", lab.well());
        CHECKS.same("0 for one that ends badly", lab.x.slot(0, 2, 6, 0), 0);
        CHECKS.same("its value is back", lab.x.coins(0, 2, 6), 107);
        CHECKS.same("its value is back", lab.x.coins(0, 2, 9), 30);
        CHECKS.same("its event is undone", lab.x.find(0, 2), 0);
        CHECKS.same("the others are not", lab.x.eventAt(0, 2, 0) * 10000 + lab.x.eventAt(0, 2, 1), 1060306);
        CHECKS.same("nothing is given back; FAIL leaves its gas", lab.gas(), 23 + 9 + 40 + 103 + 33 + 23 + 30 + 23);
        Lab outer = three(steps(PUSH, 9, PUSH, 20, PUSH, 77, CALL, 0, WRITE, 0, ForkBridge.FAIL, 0),
            steps(PUSH, 5, WRITE, 0, PUSH, 1, ForkBridge.LOG, 0), steps(), 580);
        CHECKS.no("the outer one ends badly", outer.well());
        CHECKS.same("what the inner one did is undone too", outer.x.slot(0, 2, 9, 0), 0);
        CHECKS.same("its event too", Look.countEvents(outer.x, 0, 2), 0);
        CHECKS.same("its value too", outer.x.coins(0, 2, 9), 30);
    }

    /** The outer call clears a slot, for 40; the inner one too, but ends badly. */
    private static void whatIsGivenBack() {
        int[] outer = steps(PUSH, 1, WRITE, 0, PUSH, 0, WRITE, 0, PUSH, 9, PUSH, 0, PUSH, 0, CALL, 0, ForkBridge.DROP, 0);
        int[] inner = steps(PUSH, 1, WRITE, 0, PUSH, 0, WRITE, 0, ForkBridge.FAIL, 0);
        CHECKS.same("the outer one's stays", three(outer, inner, steps(), 580).gas(), 136 + 49 + 2 + 136 - 40);
        int[] well = java.util.Arrays.copyOf(inner, inner.length - 2);
        CHECKS.same("at most a fifth of 343", three(outer, well, steps(), 580).gas(), 136 + 49 + 2 + 136 - 68);
    }

    private static void eachCallStartsAnew() {
        Lab heap = Lab.of(PUSH, 1, PUSH, 1, PUSH, 1, ForkBridge.DROP, 0);
        heap.x.submit(0, 1, 1, 6, 0, 0, 100, 10, 0);
        heap.x.make(0, 1, 5, 1);
        CHECKS.same("as the first one", heap.x.transactionAt(0, 2, 0), 100000 * 31 + 21);
        for (int times = 1; times <= 3; times++) {
            heap.x.submit(0, 1, 1 + times, 6, 0, 0, 100, 10, 0);
            heap.x.make(0, 1 + times, 5, 1);
        }
        for (int block = 3; block <= 5; block++) {
            CHECKS.same("the heap is empty at first", heap.x.transactionAt(0, block, 0) % 10, 1);
        }
        Lab less = new Lab().program(0, ForkBridge.INPUT, 0, ForkBridge.JUMP_IF_ZERO, 5, PUSH, 1, PUSH, 1, PUSH, 1, ForkBridge.DROP, 0);
        less.call(0, 0, 1, 100);
        less.x.submit(0, 1, 1, 6, 0, 0, 100, 10, 0);
        less.x.make(0, 1, 5, 1);
        CHECKS.same("nothing is left of the heap of the last call", less.x.transactionAt(0, 2, 0), 100000 * 100 + 20);
        Lab memory = Lab.of(ForkBridge.GET, 4, WRITE, 0, ForkBridge.INPUT, 0, ForkBridge.PUT, 4);
        memory.x.submit(0, 1, 1, 6, 0, 0, 300, 10, 0);
        memory.x.make(0, 1, 5, 1);
        CHECKS.same("cells are 0 at first", memory.x.slot(0, 2, 6, 0), 0);
        CHECKS.same("and cost again", memory.x.transactionAt(0, 2, 0), 100000 * (20 + 3 + 12 + 30 + 2 + 3) + 21);
        Lab first = Lab.of(ForkBridge.GET, 0, WRITE, 0, ForkBridge.INPUT, 0, ForkBridge.PUT, 0);
        first.x.submit(0, 1, 1, 6, 0, 0, 300, 10, 0);
        first.x.make(0, 1, 5, 1);
        CHECKS.same("the cell 0 too", first.x.transactionAt(0, 2, 0), 100000 * (20 + 3 + 30 + 2 + 3) + 21);
    }

    private static void gasOfCalls() {
        // Behind 9 and 40 of the gas of 560, 511 are left; less a quarter, 127, that gives 384.
        Lab lab = three(steps(PUSH, 9, PUSH, 0, PUSH, 0, CALL, 0, WRITE, 0), steps(ForkBridge.JUMP, 0), steps(), 580);
        CHECKS.yes("a quarter stays", lab.well());
        CHECKS.same("the inner one uses up all of its gas", lab.gas(), 49 + 384 + 30);
        // 4 are left: 3 are given, which pay for one push; with 3 left, 3 are given too; with 2 left, 2.
        for (int left = 0; left <= 4; left++) {
            Lab few = three(steps(PUSH, 9, PUSH, 0, PUSH, 0, CALL, 0), steps(PUSH, 1), steps(), 20 + 49 + left);
            CHECKS.yes("well with " + left, few.well());
            CHECKS.same("all or nothing of " + left, few.gas(), 49 + (left >= 3 ? 3 : left));
        }
        Lab all = three(steps(PUSH, 9, PUSH, 0, PUSH, 0, CALL, 0), steps(PUSH, 1, PUSH, 2), steps(), 20 + 49 + 6);
        CHECKS.same("5 of 6 are given, and used up", all.gas(), 49 + 5);
        Lab fits = three(steps(PUSH, 9, PUSH, 0, PUSH, 0, CALL, 0), steps(PUSH, 1, PUSH, 2), steps(), 20 + 49 + 7);
        CHECKS.same("6 of 7 are given, and pay", fits.gas(), 49 + 6);
    }

    private static void depth() {
        // Each call writes how deep it is (the input) into slot 0, and what the next one answered into slot 1.
        Lab lab = new Lab().program(0, ForkBridge.INPUT, 0, PUSH, 1, ForkBridge.ADD, 0, ForkBridge.PUT, 0,
            PUSH, 6, PUSH, 0, ForkBridge.GET, 0, CALL, 0, ForkBridge.LOG, 0);
        lab.call(0, 0, 0, 580);
        CHECKS.yes("well", lab.well());
        CHECKS.same("four calls log", lab.events(), 4);
        CHECKS.same("the deepest one was answered 0", lab.x.eventAt(0, 1, 0), 6);
        for (int place = 1; place < 4; place++) {
            CHECKS.same("the others 1", lab.x.eventAt(0, 1, place), 106);
        }
        CHECKS.same("gas", lab.gas(), 4 * (2 + 3 + 3 + 3 + 3 + 3 + 3 + 40 + 20));
        Lab coins = new Lab().program(0, PUSH, 2, PUSH, 1, PUSH, 0, CALL, 0, ForkBridge.DROP, 0, PUSH, 6, PUSH, 0, PUSH, 0, CALL, 0);
        coins.call(100, 0, 0, 580);
        CHECKS.same("at the depth 4 no value goes", coins.coins(2), 10003);
    }

    private static void makes() {
        Lab lab = Lab.of(PUSH, 30, MAKE, 3, WRITE, 0, PUSH, 0, MAKE, 7, WRITE, 1);
        // The maker 6 has the nonce 1 at first: 6 + (30 + 3) modulo 9, then 6 + (30 + 6) modulo 9, which is its own.
        CHECKS.same("the address", lab.slot(0), 12);
        CHECKS.same("its coins", lab.coins(12), 30);
        CHECKS.same("its nonce and program", lab.x.codeOf(0, 1, 12), 14);
        CHECKS.same("the maker's coins", lab.coins(6), 77);
        CHECKS.same("0 for an address that is not free", lab.slot(1), 0);
        CHECKS.same("the maker's nonce goes on in any case", lab.x.codeOf(0, 1, 6), 31);
        CHECKS.same("MAKE costs 80", lab.gas(), 83 + 100 + 83 + 30);
        Lab called = new Lab().program(0, PUSH, 30, MAKE, 1, PUSH, 5, PUSH, 9, CALL, 0).program(1, ForkBridge.INPUT, 0, WRITE, 2);
        called.call(100, 0, 0, 580);
        CHECKS.same("one that is made can be called at once", called.x.slot(0, 1, 12, 2), 9);
        CHECKS.same("with a value", called.coins(12), 35);
    }

    private static void makesThatFail() {
        Lab poor = Lab.of(PUSH, 108, MAKE, 3, WRITE, 0, PUSH, 107, MAKE, 0);
        CHECKS.same("0 for fewer coins", poor.slot(0), 0);
        CHECKS.same("none there", poor.x.codeOf(0, 1, 12), 0);
        CHECKS.same("its nonce goes on in any case", poor.x.codeOf(0, 1, 6), 31);
        CHECKS.same("no coins go", poor.coins(6), 107);
        Lab all = Lab.of(PUSH, 107, MAKE, 3);
        CHECKS.same("all coins can go", all.coins(12), 107);
        Lab early = new Lab().program(0, PUSH, 1, MAKE, 3);
        early.x.submit(0, 2, 0, 12, 5, 0, 20, 10, 0);
        early.x.submit(0, 0, 0, 16, 100, 0, 20, 10, 0);
        early.x.submit(0, 1, 0, 6, 0, 0, 580, 10, 0);
        early.x.make(0, 0, 5, 1);
        early.x.make(0, 1, 5, 1);
        CHECKS.same("coins that were there stay", early.x.coins(0, 2, 12), 6);
        CHECKS.same("coins make no contract", early.x.codeOf(0, 2, 12), 14);
    }

    private static void makesThatAreUndone() {
        Lab lab = Lab.of(PUSH, 30, MAKE, 3, ForkBridge.FAIL, 0);
        CHECKS.same("a contract is undone", lab.x.codeOf(0, 1, 12), 0);
        CHECKS.same("its coins are back", lab.coins(12) + lab.coins(6), 100);
        CHECKS.same("the nonce too", lab.x.codeOf(0, 1, 6), 11);
        Lab ended = Lab.of(PUSH, 4, WRITE, 0, PUSH, 6, PUSH, 0, PUSH, 0, CALL, 0, WRITE, 1, ForkBridge.FAIL, 0);
        CHECKS.same("deep ones are undone", ended.slot(0) + ended.slot(1), 0);
        CHECKS.same("the program stays", ended.x.codeOf(0, 1, 6), 11);
        Lab end = three(steps(PUSH, 9, PUSH, 20, PUSH, 77, CALL, 0, ForkBridge.FAIL, 0), steps(PUSH, 2, ForkBridge.END, 0), steps(), 580);
        CHECKS.same("an end is undone", end.x.codeOf(0, 2, 9), 12);
        CHECKS.same("its coins are back", end.x.coins(0, 2, 9), 30);
        CHECKS.same("and were not paid", end.x.coins(0, 2, 2), 10000);
        CHECKS.same("nothing is given back for it", end.gas(), 49 + 23);
        Lab burn = three(steps(PUSH, 9, PUSH, 20, PUSH, 77, CALL, 0, ForkBridge.FAIL, 0), steps(PUSH, 9, ForkBridge.END, 0), steps(), 580);
        CHECKS.same("a burning is undone", burn.x.burned(0, 2), PRICE * 60 + 9 * (20 + 72));
    }

    private static void madeAddresses() {
        ForkBridge x = new ForkBridge();
        for (int person = 0; person < 6; person++) {
            x.submit(0, person, 0, 16 + person, 10 + person, 0, 20, 10, 0);
        }
        x.make(0, 0, 5, 1);
        for (int person = 0; person < 6; person++) {
            int address = 6 + 5 * person % 9;
            CHECKS.same("contract of " + person, x.codeOf(0, 1, address), 10 + person + 1);
            CHECKS.same("coins of it", x.coins(0, 1, address), 10 + person);
            CHECKS.same("nonce of the person", x.codeOf(0, 1, person), 10);
            CHECKS.same("well", x.transactionAt(0, 1, person), 2000000 + 10 * person + 1);
        }
        // At the nonce 3 the person 0 comes to its first address again.
        x.submit(0, 0, 1, 16, 0, 0, 20, 10, 0);
        x.submit(0, 0, 2, 16, 0, 0, 20, 10, 0);
        x.submit(0, 0, 3, 23, 55, 0, 30, 10, 0);
        x.make(0, 1, 5, 1);
        CHECKS.same("not free: it ends badly", x.transactionAt(0, 2, 2), 2000080);
        CHECKS.same("the contract stays", x.codeOf(0, 2, 6), 11);
        CHECKS.same("the value is back", x.coins(0, 2, 6), 10);
        CHECKS.same("the nonce went on", x.codeOf(0, 2, 0), 40);
        CHECKS.same("the coins of the person", x.coins(0, 2, 0), 10000 - 10 - 20 * 9 - 3 * 20 * x.base(0, 2));
    }
}
