import java.util.function.Supplier;

/** Promises 2 to 28: what each argument may be, which exception comes first, and that a call that throws changes nothing. */
public final class RangesTest {
    private static final Checks CHECKS = new Checks("RangesTest");
    private static final String CHAIN = "`chain`: 0 or 1";
    private static final String BLOCK = "`block`: a block";
    private static final String ACCOUNT = "`account`: 0 to 15";
    private static final String SENDER = "`sender`: 0 to 5";
    private static final String NONCE = "`nonce`: 0 to 9";
    private static final String TIP = "`tip`: 0 to most";
    private static final String NO_CHAIN = "Throws `IndexOutOfBoundsException` if there is no such chain";
    private static final String NO_BLOCK = NO_CHAIN + " or block";
    private static final String NO_ACCOUNT = NO_CHAIN + ", block or account";
    private static final String DROPPED = "Throws `IllegalStateException` if the state was dropped";
    private static final int GREATEST_MIX = 1000002;

    public static void main(String[] args) {
        CHECKS.sentence("There are the chains 0 and 1.");
        CHECKS.sentence("IndexOutOfBoundsException: there is no such chain, program, account, slot, transaction, block, validator, round or step.");
        CHECKS.sentence("IllegalArgumentException: another argument is out of its range.");
        CHECKS.sentence("IllegalStateException: as the method says;");
        CHECKS.sentence("If several exceptions of a throws clause apply, the one that is listed first is thrown.");
        CHECKS.sentence("A call that throws an exception changes nothing.");
        step();
        upgrade();
        submit();
        claim();
        make();
        chains();
        blocks();
        places();
        find();
        states();
        burned();
        proofs();
        proves();
        vote();
        votesClosed();
        stake();
        CHECKS.end();
    }

    /** On both chains three blocks, the second of them final, with three transactions, one event and one lock; one transaction waits. */
    private static ForkBridge open() {
        ForkBridge x = new ForkBridge();
        x.step(0, ForkBridge.INPUT, 0);
        x.step(0, ForkBridge.LOG, 0);
        for (int chain = 0; chain < 2; chain++) {
            x.submit(chain, 0, 0, 16, 50, 0, 20, 20, 0);
            x.submit(chain, 1, 0, 6, 0, 7, 60, 20, 0);
            x.submit(chain, 2, 0, 15, 100, 4, 20, 20, 0);
            twoBlocks(x, chain);
            x.submit(chain, 3, 0, 6, 0, 9, 60, 20, 0);
        }
        return x;
    }

    private static void twoBlocks(ForkBridge x, int chain) {
        x.make(chain, 0, 5, 1);
        x.make(chain, 1, 5, 1);
        for (int v = 0; v < 3; v++) {
            x.vote(chain, v, 0, 1);
            x.vote(chain, v, 1, 2);
        }
    }

    private static ForkBridge dropped() {
        ForkBridge x = open();
        x.prune(0);
        x.prune(1);
        return x;
    }

    /** On both chains two locks in a final block; what waits on the chain 0 besides is told. */
    private static ForkBridge locks(int more) {
        ForkBridge x = new ForkBridge();
        for (int chain = 0; chain < 2; chain++) {
            x.submit(chain, 0, 0, 15, 100, 0, 20, 20, 0);
            x.submit(chain, 1, 0, 15, 100, 0, 20, 20, 0);
            twoBlocks(x, chain);
        }
        for (int n = 0; n < more; n++) {
            x.submit(0, n % 6, 3 + n / 6, 0, 0, 0, 20, 100, n);
        }
        return x;
    }

    private static ForkBridge fullOfTransactions() {
        ForkBridge x = new ForkBridge();
        for (int n = 0; n < 40; n++) {
            x.submit(0, n % 6, n / 6, 0, 0, 0, 20, 100, n);
        }
        return x;
    }

    private static ForkBridge fullOfBlocks() {
        ForkBridge x = new ForkBridge();
        for (int n = 0; n < 23; n++) {
            x.make(0, 0, 0, 1);
        }
        return x;
    }

    private static void step() {
        int[] greatest = {9999, 0, 0, 0, 0, 0, 0, 0, 0, 3, 3, 20, 20, 0, 0, 0, 0, 15, 15, 0, 0, 7, 0, 0, 0};
        for (int operation = 0; operation < greatest.length; operation++) {
            int op = operation;
            int last = greatest[operation];
            CHECKS.same("the least argument of " + op, new ForkBridge().step(0, op, 0), 1);
            CHECKS.same("the greatest argument of " + op, new ForkBridge().step(7, op, last), 1);
            for (int wrong : new int[] {-1, last + 1, Integer.MIN_VALUE, Integer.MAX_VALUE}) {
                CHECKS.refused(ForkBridge::new, "argument " + wrong + " of " + op, Checks.NO_ARGUMENT, x -> x.step(0, op, wrong));
            }
        }
        new Range(CHECKS, 2, "step", ForkBridge::new, new int[] {0, 0, 0}, (x, a) -> x.step(a[0], a[1], a[2]))
            .index("`program`: 0 to 7", 0, 7)
            .number("`operation`: PUSH to STOP", 0, 24)
            .number("`argument`: as told; 0 for operations that have none", 0, 9999)
            .says("Returns how many steps it has.", "Throws `IndexOutOfBoundsException` if there is no such program",
                "Throws `IllegalArgumentException` if operation or argument is out of range",
                "Throws `IllegalStateException` if it has 20, or a transaction was submitted")
            .check()
            .closed(RangesTest::fullProgram, 0, 0, 0)
            .closed(() -> submitted(0), 0, 0, 0)
            .closed(() -> submitted(1), 0, 0, 0)
            .closed(RangesTest::open, 7, 24, 0);
    }

    private static ForkBridge fullProgram() {
        ForkBridge x = new ForkBridge();
        for (int n = 1; n <= 20; n++) {
            CHECKS.same("how many steps it has", x.step(0, n, 0), n);
        }
        return x;
    }

    private static ForkBridge submitted(int chain) {
        ForkBridge x = new ForkBridge();
        x.step(0, 0, 5);
        x.submit(chain, 0, 0, 0, 0, 0, 20, 1, 0);
        return x;
    }

    private static void upgrade() {
        new Range(CHECKS, 3, "upgrade", ForkBridge::new, new int[] {0, 5}, (x, a) -> x.upgrade(a[0], a[1]))
            .index(CHAIN, 0, 1)
            .number("`height`: 1 to 1000", 1, 1000)
            .says("Returns the height before.", NO_CHAIN, "Throws `IllegalArgumentException` if height is out of range",
                "Throws `IllegalStateException` if the chain has more than one block")
            .check()
            .closed(RangesTest::open, 0, 5)
            .closed(RangesTest::open, 1, 1000);
    }

    private static void submit() {
        new Range(CHECKS, 4, "submit", RangesTest::open, new int[] {0, 0, 0, 0, 0, 0, 20, 20, 0},
            (x, a) -> x.submit(a[0], a[1], a[2], a[3], a[4], a[5], a[6], a[7], a[8]))
            .index(CHAIN, 0, 1)
            .index(SENDER, 0, 5)
            .number(NONCE, 0, 9)
            .number("`target`: 0 to 23", 0, 23)
            .number("`value`: 0 to 10000", 0, 10000)
            .number("`input`: 0 to 9999", 0, 9999)
            .number("`gas`: 20 to 600", 20, 600)
            .number("`most`: 1 to 100: the most that it pays for each gas", 1, 100)
            .number(TIP, 0, 20)
            .says("Returns its number; NONE if it is refused.", NO_CHAIN + ", or sender is not 0 to 5",
                "Throws `IllegalArgumentException` if nonce, target, value, input, gas, most or tip is out of range",
                "Throws `IllegalStateException` if the chain has 40 transactions")
            .check()
            .closed(RangesTest::fullOfTransactions, 0, 0, 9, 0, 0, 0, 20, 100, 100)
            .closed(RangesTest::fullOfTransactions, 0, 0, 0, 0, 0, 0, 20, 1, 0);
        for (int most = 1; most <= 100; most++) {
            int m = most;
            CHECKS.same("a tip of all of " + most, new ForkBridge().submit(0, 0, 0, 0, 0, 0, 20, most, most), 0);
            CHECKS.throwing("a tip above " + most, Checks.NO_ARGUMENT, () -> new ForkBridge().submit(0, 0, 0, 0, 0, 0, 20, m, m + 1));
        }
    }

    private static Range claimRange(Supplier<ForkBridge> made) {
        return new Range(CHECKS, 5, "claim", made, new int[] {0, 0, 1, 0, 20, 0}, (x, a) -> x.claim(a[0], a[1], a[2], a[3], a[4], a[5]))
            .index("`chain`: the chain on which the bridge is to pay, 0 or 1", 0, 1)
            .index(SENDER, 0, 5)
            .number(NONCE, 0, 9)
            .index("`lock`: the number of the transaction on the other chain that is the lock", 0, 1)
            .number("`most`: 1 to 100", 1, 100)
            .number(TIP, 0, 20);
    }

    private static void claim() {
        claimRange(() -> locks(0))
            .says("Returns its number; NONE if it is refused.", NO_CHAIN + " or transaction, or sender is not 0 to 5",
                "Throws `IllegalArgumentException` if nonce, most or tip is out of range, or the transaction is no lock",
                "Throws `IllegalStateException` if it is in no block of the other chain that is final for that, or the chain has 40 transactions")
            .check()
            .closed(() -> locks(38), 0, 0, 1, 0, 20, 0)
            .closed(RangesTest::looseLocks, 0, 0, 1, 0, 20, 0);
        int[][] noLocks = {{0, 0}, {0, 1}, {1, 0}, {1, 1}};
        for (int[] a : noLocks) {
            CHECKS.refused(RangesTest::open, "no lock: " + a[1], Checks.NO_ARGUMENT, x -> x.claim(a[0], 0, 5, a[1], 20, 0));
        }
        CHECKS.refused(RangesTest::looseNoLock, "no lock, in no block", Checks.NO_ARGUMENT, x -> x.claim(1, 0, 5, 0, 20, 0));
    }

    /** On the chain 1 two locks, one in no block, one in a block that is not final. */
    private static ForkBridge looseLocks() {
        ForkBridge x = new ForkBridge();
        x.submit(1, 0, 1, 15, 100, 0, 20, 20, 0);
        x.submit(1, 1, 0, 15, 100, 0, 20, 20, 0);
        x.make(1, 0, 5, 1);
        CHECKS.throwing("a lock in a block that is not final", Checks.NO_STATE, () -> x.claim(0, 0, 1, 1, 20, 0));
        return x;
    }

    private static ForkBridge looseNoLock() {
        ForkBridge x = new ForkBridge();
        x.submit(0, 0, 0, 15, 0, 0, 20, 20, 0);
        return x;
    }

    private static Range makeRange(Supplier<ForkBridge> made, int parent, int above) {
        return new Range(CHECKS, 7, "make", made, new int[] {0, parent, 0, 1}, (x, a) -> x.make(a[0], a[1], a[2], a[3]))
            .index(CHAIN, 0, 1)
            .index("`parent`: a block", -1, 0, above - 1, above)
            .index("`producer`: 0 to 5", 0, 5)
            .number("`weight`: 1 to 9", 1, 9);
    }

    private static void make() {
        makeRange(RangesTest::open, 0, 3)
            .says("Returns its number.", NO_BLOCK + ", or producer is not 0 to 5", "Throws `IllegalArgumentException` if weight is out of range",
                "Throws `IllegalStateException` if the chain has 24 blocks, or the state of the parent was dropped")
            .check()
            .closed(RangesTest::dropped, 0, 0, 0, 1);
        makeRange(RangesTest::fullOfBlocks, 0, 24).closed(RangesTest::fullOfBlocks, 0, 23, 5, 9);
        makeRange(RangesTest::open, 2, 3).check();
    }

    private static Range chainRange(int promise, String name, String answer, Range.Asked asked) {
        return new Range(CHECKS, promise, name, RangesTest::open, new int[] {0}, asked).index(CHAIN, 0, 1).says(answer, NO_CHAIN).check();
    }

    private static void chains() {
        chainRange(6, "pool", "Returns how many.", (x, a) -> x.pool(a[0]));
        chainRange(8, "head", "Returns the block.", (x, a) -> x.head(a[0]));
        chainRange(24, "prune", "Returns how many were dropped by that.", (x, a) -> x.prune(a[0]));
        chainRange(27, "lastFinal", "Returns the block.", (x, a) -> x.lastFinal(a[0]));
    }

    private static Range blockRange(int promise, String name, Supplier<ForkBridge> made, Range.Asked asked) {
        return new Range(CHECKS, promise, name, made, new int[] {0, 1}, asked).index(CHAIN, 0, 1).index(BLOCK, 0, 2);
    }

    private static void blocks() {
        for (Supplier<ForkBridge> made : java.util.List.<Supplier<ForkBridge>>of(RangesTest::open, RangesTest::dropped)) {
            blockRange(9, "base", made, (x, a) -> x.base(a[0], a[1])).says("Returns the base.", NO_BLOCK).check();
            blockRange(10, "used", made, (x, a) -> x.used(a[0], a[1])).says("Returns the gas.", NO_BLOCK).check();
            blockRange(13, "bloom", made, (x, a) -> x.bloom(a[0], a[1])).says("Returns the set, as bits.", NO_BLOCK).check();
            blockRange(19, "root", made, (x, a) -> x.root(a[0], a[1])).says("Returns the root.", NO_BLOCK).check();
            blockRange(20, "rootAnew", made, (x, a) -> x.rootAnew(a[0], a[1])).says("Returns the root.", NO_BLOCK).check();
            blockRange(26, "isJustified", made, (x, a) -> x.isJustified(a[0], a[1]) ? 1 : 0).says("Returns whether it is.", NO_BLOCK).check();
        }
    }

    private static Range placeRange(int promise, String name, int block, int count, Range.Asked asked) {
        return new Range(CHECKS, promise, name, RangesTest::open, new int[] {0, block, 0}, asked)
            .index(CHAIN, 0, 1).index(BLOCK, -1, block, block, 3).index(promise == 11 ? "`place`: 0 for the one that was run first" : "`place`: 0 for the first one", 0, count - 1);
    }

    private static void places() {
        placeRange(11, "transactionAt", 1, 3, (x, a) -> x.transactionAt(a[0], a[1], a[2]))
            .says("Returns 100000 times the gas that it used, 10 times its number, and 1 if it ended well, added.", NO_BLOCK + ", or it has not so many")
            .check();
        placeRange(12, "eventAt", 1, 1, (x, a) -> x.eventAt(a[0], a[1], a[2]))
            .says("Returns 100 times the topic, and the account whose program made it, added.", NO_BLOCK + ", or it has not so many")
            .check();
        for (int block = 0; block <= 2; block += 2) {
            int empty = block;
            CHECKS.refused(RangesTest::open, "a block without transactions", Checks.NO_INDEX, x -> x.transactionAt(0, empty, 0));
            CHECKS.refused(RangesTest::open, "a block without events", Checks.NO_INDEX, x -> x.eventAt(0, empty, 0));
        }
        CHECKS.same("told of a dropped one too", dropped().transactionAt(0, 0 + 1, 2), 2000021);
    }

    private static void find() {
        new Range(CHECKS, 14, "find", RangesTest::open, new int[] {0, 7}, (x, a) -> x.find(a[0], a[1]))
            .index(CHAIN, 0, 1)
            .number("`topic`: 0 to 15", 0, 15)
            .says("Returns 100 times how many of these blocks have both bits of the topic in their blooms, and how many events there are, added.",
                NO_CHAIN, "Throws `IllegalArgumentException` if topic is out of range")
            .check();
    }

    private static Range stateRange(int promise, String name, Range.Asked asked) {
        return new Range(CHECKS, promise, name, RangesTest::open, new int[] {0, 0, 6}, asked).index(CHAIN, 0, 1).index(BLOCK, 0, 2).index(ACCOUNT, 0, 15);
    }

    private static void states() {
        CHECKS.sentence("questions about the state of a block throw it, if that was dropped.");
        stateRange(15, "coins", (x, a) -> x.coins(a[0], a[1], a[2])).says("Returns the coins.", NO_ACCOUNT, DROPPED)
            .check().closed(RangesTest::dropped, 0, 0, 6).closed(RangesTest::dropped, 1, 0, 15);
        stateRange(16, "codeOf", (x, a) -> x.codeOf(a[0], a[1], a[2]))
            .says("Returns 10 times the nonce, and the program and 1 (0 without one), added.", NO_ACCOUNT, DROPPED)
            .check().closed(RangesTest::dropped, 0, 0, 6).closed(RangesTest::dropped, 1, 0, 15);
        stateRange(21, "leaf", (x, a) -> x.leaf(a[0], a[1], a[2])).says("Returns the leaf.", NO_ACCOUNT, DROPPED)
            .check().closed(RangesTest::dropped, 0, 0, 6).closed(RangesTest::dropped, 1, 0, 15);
    }

    private static void burned() {
        blockRange(18, "burned", RangesTest::open, (x, a) -> x.burned(a[0], a[1])).says("Returns how many.", NO_BLOCK, DROPPED).check();
        new Range(CHECKS, 18, "burned", RangesTest::open, new int[] {0, 0}, (x, a) -> x.burned(a[0], a[1]))
            .index(CHAIN, 0, 1).index(BLOCK, 0, 2).closed(RangesTest::dropped, 0, 0).closed(RangesTest::dropped, 1, 0);
    }

    private static Range fourRange(int promise, String name, String fourth, Range.Asked asked) {
        return new Range(CHECKS, promise, name, RangesTest::open, new int[] {0, 0, 6, 0}, asked)
            .index(CHAIN, 0, 1).index(BLOCK, 0, 2).index(ACCOUNT, 0, 15).index(fourth, 0, 3);
    }

    private static void proofs() {
        fourRange(17, "slot", "`slot`: 0 to 3", (x, a) -> x.slot(a[0], a[1], a[2], a[3])).says("Returns the number.", NO_CHAIN + ", block, account or slot", DROPPED)
            .check().closed(RangesTest::dropped, 0, 0, 6, 0).closed(RangesTest::dropped, 1, 0, 15, 3);
        fourRange(22, "proof", "`round`: 0 to 3", (x, a) -> x.proof(a[0], a[1], a[2], a[3])).says("Returns the neighbour.", NO_CHAIN + ", block, account or round", DROPPED)
            .check().closed(RangesTest::dropped, 0, 0, 6, 0).closed(RangesTest::dropped, 1, 0, 15, 3);
    }

    private static void proves() {
        for (Supplier<ForkBridge> made : java.util.List.<Supplier<ForkBridge>>of(RangesTest::open, RangesTest::dropped)) {
            new Range(CHECKS, 23, "proves", made, new int[] {0, 0, 6, 0, 0, 0, 0, 0},
                (x, a) -> x.proves(a[0], a[1], a[2], a[3], a[4], a[5], a[6], a[7]) ? 1 : 0)
                .index(CHAIN, 0, 1)
                .index("`block`: a block whose root is meant", 0, 2)
                .index(ACCOUNT, 0, 15)
                .number("`leaf`: 0 to 1000002", 0, GREATEST_MIX)
                .number("`first`: 0 to 1000002: the neighbour in the round 0, likewise second, third and fourth", 0, GREATEST_MIX)
                .number("second", 0, GREATEST_MIX)
                .number("third", 0, GREATEST_MIX)
                .number("fourth", 0, GREATEST_MIX)
                .check();
        }
    }

    private static Range voteRange(int source, int target) {
        return new Range(CHECKS, 25, "vote", RangesTest::open, new int[] {0, 3, source, target}, (x, a) -> x.vote(a[0], a[1], a[2], a[3]) ? 1 : 0)
            .index(CHAIN, 0, 1)
            .index("`validator`: 0 to 3", 0, 3)
            .index("`source`: a block", -1, source == 0 ? 0 : 1, source == 0 ? 0 : 1, 3)
            .index("`target`: a block that comes from it", -1, target == 1 ? 1 : 2, target == 1 ? 1 : 2, 3);
    }

    private static void vote() {
        voteRange(0, 1)
            .says("Returns whether the vote counts.", NO_CHAIN + ", validator or block", "Throws `IllegalArgumentException` if target does not come from source",
                "Throws `IllegalStateException` if the validator was punished, or has 20 votes")
            .check();
        voteRange(0, 2).check();
        voteRange(1, 2).check();
        // The block 3 is a fork of the block 1: it comes from 0 and 1, and not from 2.
        int[][] wrong = {{0, 0}, {1, 1}, {2, 2}, {3, 3}, {1, 0}, {2, 0}, {2, 1}, {3, 0}, {3, 1}, {2, 3}, {3, 2}};
        for (int[] a : wrong) {
            CHECKS.refused(() -> forked(0), "vote from " + a[0] + " to " + a[1], Checks.NO_ARGUMENT, x -> x.vote(0, 3, a[0], a[1]));
        }
    }

    private static ForkBridge forked(int votes) {
        ForkBridge x = open();
        x.make(0, 1, 5, 1);
        for (int n = 0; n < votes; n++) {
            CHECKS.yes("vote " + n, x.vote(0, 3, 1, 3));
        }
        return x;
    }

    private static ForkBridge punished() {
        ForkBridge x = forked(1);
        CHECKS.no("a vote for another block of the same height", x.vote(0, 3, 1, 2));
        return x;
    }

    private static void votesClosed() {
        for (Supplier<ForkBridge> made : java.util.List.<Supplier<ForkBridge>>of(() -> forked(20), RangesTest::punished)) {
            CHECKS.refused(made, "the vote is closed", Checks.NO_STATE, x -> x.vote(0, 3, 1, 3));
            CHECKS.refused(made, "from 3 to 1", Checks.NO_ARGUMENT, x -> x.vote(0, 3, 3, 1));
            CHECKS.refused(made, "from 1 to 4", Checks.NO_INDEX, x -> x.vote(0, 3, 1, 4));
            CHECKS.refused(made, "from 4 to 1", Checks.NO_INDEX, x -> x.vote(0, 3, 4, 1));
            CHECKS.refused(made, "another validator's", Checks.NO_INDEX, x -> x.vote(0, 4, 1, 3));
            CHECKS.refused(made, "another chain's", Checks.NO_INDEX, x -> x.vote(2, 3, 1, 3));
            CHECKS.yes("another validator's vote is taken", made.get().vote(1, 3, 0, 1));
        }
        CHECKS.yes("the 20th vote is taken", forked(19).vote(0, 3, 1, 3));
    }

    private static void stake() {
        new Range(CHECKS, 28, "stake", RangesTest::open, new int[] {0, 0}, (x, a) -> x.stake(a[0], a[1]))
            .index(CHAIN, 0, 1)
            .index("`validator`: 0 to 3", 0, 3)
            .says("Returns 100, or 0 if it was punished.", NO_CHAIN + " or validator")
            .check();
    }
}
