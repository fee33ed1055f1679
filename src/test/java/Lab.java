/** An object with one contract (of program 0, made by person 0) at the account 6, and a call of it, in the block 1. */
final class Lab {
    final ForkBridge x;
    /** What the call answered at transactionAt. */
    int result;

    Lab() {
        this(new ForkBridge());
    }

    Lab(ForkBridge x) {
        this.x = x;
    }

    /** Steps are given as operation, argument, operation, argument, and so on. */
    static void program(ForkBridge x, int program, int... steps) {
        for (int i = 0; i + 1 < steps.length; i += 2) {
            x.step(program, steps[i], steps[i + 1]);
        }
    }

    Lab program(int program, int... steps) {
        program(x, program, steps);
        return this;
    }

    /** Person 0 makes a contract with the coins, person 1 calls it; the producer is person 5, and no tip is paid. */
    Lab call(int coins, int value, int input, int gas) {
        x.submit(0, 0, 0, 16, coins, 0, 20, 10, 0);
        x.submit(0, 1, 0, 6, value, input, gas, 10, 0);
        x.make(0, 0, 5, 1);
        result = x.transactionAt(0, 1, 1);
        return this;
    }

    static Lab of(int... steps) {
        return new Lab().program(0, steps).call(100, 7, 42, 580);
    }

    boolean well() {
        return result % 10 == 1;
    }

    /** The gas of the program alone. */
    int gas() {
        return result / 100000 - 20;
    }

    int slot(int slot) {
        return x.slot(0, 1, 6, slot);
    }

    int coins(int account) {
        return x.coins(0, 1, account);
    }

    int events() {
        return Look.countEvents(x, 0, 1);
    }

    /** Person 1 calls the account once more, with the value 9, in the block 2. */
    Lab callAgain() {
        x.submit(0, 1, 1, 6, 9, 0, 20, 10, 0);
        x.make(0, 1, 5, 1);
        result = x.transactionAt(0, 2, 0);
        return this;
    }
}
