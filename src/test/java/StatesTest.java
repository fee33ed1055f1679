/** Promises 15 to 24: states, roots, proofs, and states that are dropped. */
public final class StatesTest {
    private static final Checks CHECKS = new Checks("StatesTest");
    private static final int MIXES = 1000003;

    public static void main(String[] args) {
        states();
        firstRoot();
        leaves();
        proofs();
        provesRefused();
        rootsOfForks();
        refusals();
        pruning();
        pruningForks();
        CHECKS.end();
    }

    /** A chain of four blocks, with a fork at the block 2: contracts, slots, events, burned coins, and programs that end. */
    private static ForkBridge full() {
        Lab lab = new Lab().program(0, ForkBridge.INPUT, 0, ForkBridge.WRITE, 0, ForkBridge.VALUE, 0, ForkBridge.WRITE, 3)
            .program(2, ForkBridge.PUSH, 61, ForkBridge.WRITE, 1, ForkBridge.PUSH, 62, ForkBridge.WRITE, 2)
            .program(1, ForkBridge.PUSH, 5, ForkBridge.MAKE, 0, ForkBridge.PUSH, 6, ForkBridge.PUSH, 1, ForkBridge.PUSH, 9, ForkBridge.CALL, 0);
        ForkBridge x = lab.call(40, 11, 77, 400).x;
        x.upgrade(1, 2);
        x.submit(0, 2, 0, 17, 50, 0, 20, 20, 0);
        x.submit(0, 3, 0, 7, 1, 0, 550, 12, 0);
        x.make(0, 1, 4, 1);
        x.submit(0, 1, 1, 6, 3, 0, 300, 20, 2);
        x.make(0, 2, 4, 1);
        x.make(0, 1, 3, 1);
        x.make(0, 3, 2, 1);
        x.submit(0, 5, 0, 18, 0, 0, 20, 20, 0);
        x.submit(0, 4, 0, 13, 0, 0, 300, 20, 0);
        x.make(0, 5, 2, 1);
        return x;
    }

    private static void states() {
        ForkBridge x = full();
        CHECKS.same("slot 0", x.slot(0, 1, 6, 0), 77);
        CHECKS.same("slot 3", x.slot(0, 1, 6, 3), 11);
        CHECKS.same("slots of the block ahead stay", x.slot(0, 0, 6, 0), 0);
        CHECKS.same("called by a contract", x.slot(0, 2, 6, 0) * 100 + x.slot(0, 2, 6, 3), 901);
        CHECKS.same("the contract of a contract", x.codeOf(0, 2, 6 + (35 + 3) % 9), 11);
        CHECKS.same("its nonce", x.codeOf(0, 2, 7), 22);
        CHECKS.same("back to 0 in the block 3", x.slot(0, 3, 6, 0), 0);
        CHECKS.same("but not in its parent", x.slot(0, 2, 6, 0), 9);
        for (int block = 0; block < 7; block++) {
            int sum = x.burned(0, block);
            for (int account = 0; account < 16; account++) {
                sum += x.coins(0, block, account);
            }
            CHECKS.same("no coin is made or lost up to the block " + block, sum, 80000);
        }
        CHECKS.same("burned by the block 1", x.burned(0, 1), x.used(0, 1) * 9);
    }

    private static long mix(long p, long q) {
        return (31 * p + 17 * q + 7) % MIXES;
    }

    private static void firstRoot() {
        ForkBridge x = new ForkBridge();
        long slots = mix(mix(0, 0), mix(0, 0));
        long person = mix(10000, mix(0, mix(0, slots)));
        long empty = mix(0, mix(0, mix(0, slots)));
        long bridge = mix(20000, mix(0, mix(0, slots)));
        CHECKS.same("leaf of a person", x.leaf(0, 0, 5), person);
        CHECKS.same("leaf of an empty account", x.leaf(1, 0, 6), empty);
        CHECKS.same("leaf of the bridge", x.leaf(0, 0, 15), bridge);
        long people = mix(person, person);
        long none = mix(empty, empty);
        long first = mix(mix(people, people), mix(people, none));
        long second = mix(mix(none, none), mix(none, mix(empty, bridge)));
        CHECKS.same("root", x.root(0, 0), mix(first, second));
        CHECKS.same("root, as the shared test has it", x.root(1, 0), 980248);
        CHECKS.same("root anew", x.rootAnew(1, 0), 980248);
    }

    private static void leaves() {
        ForkBridge x = full();
        for (int n = 0; n < 32; n++) {
            int account = n % 16;
            int block = n < 16 ? 2 : 6;
            int code = x.codeOf(0, block, account);
            long slots = mix(mix(x.slot(0, block, account, 0), x.slot(0, block, account, 1)),
                mix(x.slot(0, block, account, 2), x.slot(0, block, account, 3)));
            long due = mix(x.coins(0, block, account), mix(code / 10, mix(code % 10, slots)));
            CHECKS.same("leaf of " + account, x.leaf(0, block, account), due);
        }
        CHECKS.same("the slots 1 and 2 were written", x.slot(0, 6, 13, 1) * 100 + x.slot(0, 6, 13, 2), 6162);
    }

    private static void proofs() {
        for (int n = 0; n < 14; n++) {
            ForkBridge x = full();
            int block = n / 2;
            for (int account = n % 2; account < 16; account += 2) {
                int leaf = x.leaf(0, block, account);
                int[] p = new int[4];
                for (int round = 0; round < 4; round++) {
                    p[round] = x.proof(0, block, account, round);
                }
                CHECKS.same("neighbour", p[0], x.leaf(0, block, account ^ 1));
                int other = account ^ 2;
                CHECKS.same("round 1", p[1], mix(x.leaf(0, block, other & 14), x.leaf(0, block, other | 1)));
                CHECKS.yes("proves", x.proves(0, block, account, leaf, p[0], p[1], p[2], p[3]));
                CHECKS.no("another leaf", x.proves(0, block, account, (leaf + 1) % MIXES, p[0], p[1], p[2], p[3]));
                CHECKS.no("another first", x.proves(0, block, account, leaf, (p[0] + 1) % MIXES, p[1], p[2], p[3]));
                CHECKS.no("another second", x.proves(0, block, account, leaf, p[0], (p[1] + 1) % MIXES, p[2], p[3]));
                CHECKS.no("another third", x.proves(0, block, account, leaf, p[0], p[1], (p[2] + 1) % MIXES, p[3]));
                CHECKS.no("another fourth", x.proves(0, block, account, leaf, p[0], p[1], p[2], (p[3] + 1) % MIXES));
                CHECKS.no("another account", x.proves(0, block, account ^ 8, leaf, p[0], p[1], p[2], p[3]));
            }
        }
        ForkBridge x = full();
        CHECKS.no("another block's root", x.proves(0, 1, 6, x.leaf(0, 2, 6), x.proof(0, 2, 6, 0), x.proof(0, 2, 6, 1), x.proof(0, 2, 6, 2), x.proof(0, 2, 6, 3)));
    }

    private static void provesRefused() {
        ForkBridge x = full();
        for (int place = 0; place < 5; place++) {
            for (int wrong : new int[] {-1, MIXES, Integer.MAX_VALUE, Integer.MIN_VALUE}) {
                int[] a = new int[5];
                a[place] = wrong;
                CHECKS.throwing("number " + wrong + " at " + place, Checks.NO_ARGUMENT, () -> x.proves(0, 0, 0, a[0], a[1], a[2], a[3], a[4]));
            }
            int[] a = new int[5];
            a[place] = MIXES - 1;
            CHECKS.no("the greatest number at " + place, x.proves(0, 0, 0, a[0], a[1], a[2], a[3], a[4]));
        }
        int[][] none = {{-1, 0, 0}, {2, 0, 0}, {0, -1, 0}, {0, 7, 0}, {0, 0, -1}, {0, 0, 16}};
        for (int[] a : none) {
            CHECKS.throwing("proves", Checks.NO_INDEX, () -> x.proves(a[0], a[1], a[2], -1, 0, 0, 0, 0));
        }
    }

    private static void rootsOfForks() {
        ForkBridge x = full();
        for (int block = 0; block < 7; block++) {
            CHECKS.same("root anew of " + block, x.rootAnew(0, block), x.root(0, block));
            for (int other = 0; other < block && block < 5; other++) {
                CHECKS.no("roots are by content", x.root(0, other) == x.root(0, block));
            }
        }
        CHECKS.same("the block 5 has no transactions", x.root(0, 5), x.root(0, 3));
        ForkBridge y = full();
        CHECKS.same("the same blocks, the same root", y.root(0, 5), x.root(0, 5));
        String before = Look.all(x);
        x.rootAnew(0, 5);
        CHECKS.yes("running anew changes nothing", before.equals(Look.all(x)));
        x.make(1, 0, 0, 1);
        CHECKS.same("nothing happened there", x.root(1, 1), 980248);
    }

    private static void refusals() {
        ForkBridge x = full();
        int[][] none = {{-1, 0, 0, 0}, {2, 0, 0, 0}, {0, -1, 0, 0}, {0, 7, 0, 0}, {1, 1, 0, 0}};
        for (int[] a : none) {
            CHECKS.throwing("burned", Checks.NO_INDEX, () -> x.burned(a[0], a[1]));
            CHECKS.throwing("root", Checks.NO_INDEX, () -> x.root(a[0], a[1]));
            CHECKS.throwing("rootAnew", Checks.NO_INDEX, () -> x.rootAnew(a[0], a[1]));
            accountRefused(x, a);
        }
        accountRefused(x, new int[] {0, 0, -1, 0});
        accountRefused(x, new int[] {0, 0, 16, 0});
        CHECKS.throwing("slot -1", Checks.NO_INDEX, () -> x.slot(0, 0, 6, -1));
        CHECKS.throwing("slot 4", Checks.NO_INDEX, () -> x.slot(0, 0, 6, 4));
        CHECKS.throwing("round -1", Checks.NO_INDEX, () -> x.proof(0, 0, 6, -1));
        CHECKS.throwing("round 4", Checks.NO_INDEX, () -> x.proof(0, 0, 6, 4));
        CHECKS.throwing("prune of 2", Checks.NO_INDEX, () -> x.prune(2));
        CHECKS.throwing("prune of -1", Checks.NO_INDEX, () -> x.prune(-1));
    }

    private static void accountRefused(ForkBridge x, int[] a) {
        CHECKS.throwing("coins", Checks.NO_INDEX, () -> x.coins(a[0], a[1], a[2]));
        CHECKS.throwing("codeOf", Checks.NO_INDEX, () -> x.codeOf(a[0], a[1], a[2]));
        CHECKS.throwing("slot", Checks.NO_INDEX, () -> x.slot(a[0], a[1], a[2], a[3]));
        CHECKS.throwing("leaf", Checks.NO_INDEX, () -> x.leaf(a[0], a[1], a[2]));
        CHECKS.throwing("proof", Checks.NO_INDEX, () -> x.proof(a[0], a[1], a[2], a[3]));
    }

    private static void finalise(ForkBridge x, int chain, int block, int child) {
        for (int v = 0; v < 4; v++) {
            x.vote(chain, v, 0, block);
            x.vote(chain, v, block, child);
        }
    }

    private static void pruning() {
        ForkBridge x = full();
        CHECKS.same("none is lower than the block 0", x.prune(0), 0);
        int leaf = x.leaf(0, 1, 6);
        int[] p = {x.proof(0, 1, 6, 0), x.proof(0, 1, 6, 1), x.proof(0, 1, 6, 2), x.proof(0, 1, 6, 3)};
        int root = x.root(0, 1);
        finalise(x, 0, 2, 3);
        CHECKS.same("final", x.lastFinal(0), 2);
        CHECKS.same("two are lower", x.prune(0), 2);
        CHECKS.same("they were dropped already", x.prune(0), 0);
        CHECKS.same("the other chain is not meant", x.prune(1), 0);
        for (int block = 0; block < 2; block++) {
            int b = block;
            CHECKS.throwing("coins", Checks.NO_STATE, () -> x.coins(0, b, 0));
            CHECKS.throwing("codeOf", Checks.NO_STATE, () -> x.codeOf(0, b, 0));
            CHECKS.throwing("slot", Checks.NO_STATE, () -> x.slot(0, b, 0, 0));
            CHECKS.throwing("burned", Checks.NO_STATE, () -> x.burned(0, b));
            CHECKS.throwing("leaf", Checks.NO_STATE, () -> x.leaf(0, b, 0));
            CHECKS.throwing("proof", Checks.NO_STATE, () -> x.proof(0, b, 0, 0));
            accountRefused(x, new int[] {0, b, 16, 4});
            CHECKS.throwing("slot 4 of a dropped one", Checks.NO_INDEX, () -> x.slot(0, b, 0, 4));
            CHECKS.throwing("round 4 of a dropped one", Checks.NO_INDEX, () -> x.proof(0, b, 0, 4));
        }
        CHECKS.same("the root is told", x.root(0, 1), root);
        CHECKS.same("the root is found anew", x.rootAnew(0, 1), root);
        CHECKS.same("the one behind too", x.rootAnew(0, 5), x.root(0, 5));
        CHECKS.yes("who has headers alone can check a proof", x.proves(0, 1, 6, leaf, p[0], p[1], p[2], p[3]));
        CHECKS.same("bases are told", x.base(0, 0), 10);
        CHECKS.same("transactions are told", x.transactionAt(0, 1, 0), 2000001);
        CHECKS.same("the final one's state stays", x.slot(0, 2, 6, 0), 9);
        CHECKS.same("a fork of its height stays", x.slot(0, 4, 6, 0), x.slot(0, 4, 6, 0));
    }

    private static void pruningForks() {
        ForkBridge x = new ForkBridge();
        x.make(0, 0, 0, 1);
        x.make(0, 1, 0, 1);
        x.make(0, 0, 0, 1);
        x.make(0, 3, 0, 1);
        x.make(0, 4, 0, 1);
        x.make(0, 2, 0, 1);
        finalise(x, 0, 2, 6);
        CHECKS.same("final, with the height 2", x.lastFinal(0), 2);
        CHECKS.same("0, 1 and 3 are lower", x.prune(0), 3);
        CHECKS.yes("a greater number, but a lower height", Look.isDropped(x, 0, 3));
        CHECKS.no("the same height", Look.isDropped(x, 0, 4));
        CHECKS.no("itself", Look.isDropped(x, 0, 2));
        CHECKS.same("a fork can go on", x.make(0, 5, 0, 9), 7);
        CHECKS.same("but is not the head", x.head(0), 6);
    }
}
