/** Promises 15 to 24: leaves, roots and proofs of each account, blocks that are run anew, and which states are dropped. */
public final class StateEdgesTest {
    private static final Checks CHECKS = new Checks("StateEdgesTest");
    private static final int MIXES = 1000003;
    private static final int PUSH = ForkBridge.PUSH;
    private static final int WRITE = ForkBridge.WRITE;

    public static void main(String[] args) {
        codes();
        leaves();
        roots();
        proofs();
        provesNot();
        provesWithGreatestNumbers();
        anew();
        anewOfEachKind();
        lowerOnes();
        nothingLower();
        droppedOnce();
        forksOfDroppedOnes();
        whatIsToldOfDroppedOnes();
        CHECKS.end();
    }

    private static void codes() {
        CHECKS.sentence("Returns 10 times the nonce, and the program and 1 (0 without one), added.");
        ForkBridge x = new ForkBridge();
        x.submit(0, 0, 0, 16, 0, 0, 20, 20, 0);
        x.submit(0, 1, 0, 23, 0, 0, 20, 20, 0);
        for (int n = 0; n < 8; n++) {
            x.submit(0, 2, n, 15, 0, 0, 20, 20, 0);
        }
        x.make(0, 0, 5, 1);
        CHECKS.same("the least program", x.codeOf(0, 1, 6), 11);
        CHECKS.same("the greatest program", x.codeOf(0, 1, 11), 18);
        CHECKS.same("a nonce of 8", x.codeOf(0, 1, 2), 80);
        CHECKS.same("the bridge", x.codeOf(0, 1, 15), 0);
        Lab nonces = new Lab().program(0, PUSH, 9999, ForkBridge.MAKE, 0, PUSH, 9999, ForkBridge.MAKE, 0, PUSH, 9999, ForkBridge.MAKE, 0,
            PUSH, 9999, ForkBridge.MAKE, 0, PUSH, 9999, ForkBridge.MAKE, 0, PUSH, 9999, ForkBridge.MAKE, 0);
        nonces.call(0, 0, 0, 580);
        nonces.x.submit(0, 2, 0, 6, 0, 0, 580, 10, 0);
        nonces.x.make(0, 1, 5, 1);
        CHECKS.same("a nonce above 9", nonces.x.codeOf(0, 2, 6), 131);
        CHECKS.same("its leaf", nonces.x.leaf(0, 2, 6), leafOf(nonces.x, 0, 2, 6));
    }

    private static long mix(long p, long q) {
        return (31 * p + 17 * q + 7) % MIXES;
    }

    private static long leafOf(ForkBridge x, int chain, int block, int account) {
        int code = x.codeOf(chain, block, account);
        long slots = mix(mix(x.slot(chain, block, account, 0), x.slot(chain, block, account, 1)),
            mix(x.slot(chain, block, account, 2), x.slot(chain, block, account, 3)));
        return mix(x.coins(chain, block, account) % MIXES, mix(code / 10, mix(code % 10, slots)));
    }

    /** Contracts at 6, 11 and 14, the first with the greatest numbers in its slots; a lock; all in the block 1. */
    private static ForkBridge rich(int chain) {
        ForkBridge x = new ForkBridge();
        Lab.program(x, 0, PUSH, 0, PUSH, 1, ForkBridge.SUB, 0, ForkBridge.DOUBLE, 0, WRITE, 0, PUSH, 1, ForkBridge.SUB, 0, WRITE, 3);
        x.submit(chain, 0, 0, 16, 1234, 0, 20, 20, 3);
        x.submit(chain, 1, 0, 17, 1, 0, 20, 20, 0);
        x.submit(chain, 1, 1, 23, 2, 0, 20, 20, 0);
        x.submit(chain, 2, 0, 6, 3, 0, 300, 20, 2);
        x.submit(chain, 3, 0, 15, 4, 0, 20, 20, 0);
        x.make(chain, 0, 4, 1);
        return x;
    }

    private static void leaves() {
        CHECKS.sentence("The leaf of an account is mix(coins modulo 1000003, mix(nonce, mix(p, mix(mix(slot 0, slot 1), mix(slot 2, slot 3))))), where p is its program and 1, added, or 0 without one.");
        CHECKS.sentence("The mix of two numbers p and q is (31 p + 17 q + 7) modulo 1000003.");
        for (int chain = 0; chain < 2; chain++) {
            ForkBridge x = rich(chain);
            CHECKS.same("the greatest slot", x.slot(chain, 1, 6, 0), 999999);
            CHECKS.same("one less", x.slot(chain, 1, 6, 3), 999998);
            for (int account = 0; account < 16; account++) {
                CHECKS.same("leaf of " + account, x.leaf(chain, 1, account), leafOf(x, chain, 1, account));
                CHECKS.yes("its range", x.leaf(chain, 1, account) >= 0 && x.leaf(chain, 1, account) < MIXES);
            }
        }
    }

    private static long nodeOf(ForkBridge x, int block, int round, int place) {
        return round == 0 ? x.leaf(0, block, place) : mix(nodeOf(x, block, round - 1, 2 * place), nodeOf(x, block, round - 1, 2 * place + 1));
    }

    private static void roots() {
        CHECKS.sentence("The root of a state is over the 16 leaves in four rounds: in each, the neighbours 0 and 1, 2 and 3, and so on, are mixed.");
        ForkBridge x = rich(0);
        CHECKS.same("root", x.root(0, 1), nodeOf(x, 1, 4, 0));
        CHECKS.same("root of the first block", x.root(0, 0), nodeOf(x, 0, 4, 0));
    }

    private static void proofs() {
        CHECKS.sentence("A proof of an account tells, for the rounds 0 to 3, the neighbour with which it, or what became of it, is mixed.");
        int[][] neighbours = {{1, 1, 1, 1}, {0, 1, 1, 1}, {3, 0, 1, 1}, {2, 0, 1, 1}, {5, 3, 0, 1}, {4, 3, 0, 1}, {7, 2, 0, 1}, {6, 2, 0, 1},
            {9, 5, 3, 0}, {8, 5, 3, 0}, {11, 4, 3, 0}, {10, 4, 3, 0}, {13, 7, 2, 0}, {12, 7, 2, 0}, {15, 6, 2, 0}, {14, 6, 2, 0}};
        for (int account = 0; account < 16; account++) {
            ForkBridge x = rich(0);
            int[] p = new int[4];
            for (int round = 0; round < 4; round++) {
                p[round] = x.proof(0, 1, account, round);
                CHECKS.same("round " + round + " of " + account, p[round], nodeOf(x, 1, round, neighbours[account][round]));
            }
            CHECKS.yes("the proof of " + account, x.proves(0, 1, account, x.leaf(0, 1, account), p[0], p[1], p[2], p[3]));
        }
    }

    private static void provesNot() {
        CHECKS.sentence("Tells whether a proof leads to a root; for who has headers alone.");
        for (int account = 0; account < 16; account++) {
            ForkBridge x = rich(0);
            int[] p = {x.leaf(0, 1, account), x.proof(0, 1, account, 0), x.proof(0, 1, account, 1), x.proof(0, 1, account, 2), x.proof(0, 1, account, 3)};
            for (int place = 0; place < 5; place++) {
                for (int more : new int[] {1, MIXES - 1}) {
                    int[] q = p.clone();
                    q[place] = (q[place] + more) % MIXES;
                    CHECKS.no("another number at " + place, x.proves(0, 1, account, q[0], q[1], q[2], q[3], q[4]));
                }
            }
            CHECKS.no("the root of another block", x.proves(0, 0, account, p[0], p[1], p[2], p[3], p[4]));
            CHECKS.no("the root of another chain", x.proves(1, 0, account, p[0], p[1], p[2], p[3], p[4]));
            for (int other = 0; other < 16; other++) {
                boolean same = other == account || isProof(x, other, p);
                CHECKS.same("as a proof of " + other, x.proves(0, 1, other, p[0], p[1], p[2], p[3], p[4]) ? 1 : 0, same ? 1 : 0);
            }
        }
    }

    /** Whether the numbers lead to the root of the block 1 by the place of another account. */
    private static boolean isProof(ForkBridge x, int account, int[] p) {
        long node = p[0];
        for (int round = 0; round < 4; round++) {
            node = (account >> round) % 2 == 0 ? mix(node, p[round + 1]) : mix(p[round + 1], node);
        }
        return node == x.root(0, 1);
    }

    private static void provesWithGreatestNumbers() {
        CHECKS.sentence("`first`: 0 to 1000002: the neighbour in the round 0, likewise second, third and fourth");
        // All numbers but the last are the greatest; of all last ones just one leads to the root.
        ForkBridge x = new ForkBridge();
        long node = MIXES - 1;
        for (int round = 0; round < 3; round++) {
            node = mix(node, MIXES - 1);
        }
        int root = x.root(0, 0);
        int found = 0;
        int last = 0;
        for (int fourth = 0; fourth < MIXES; fourth++) {
            if (mix(node, fourth) == root) {
                found++;
                last = fourth;
            }
        }
        CHECKS.same("one number", found, 1);
        CHECKS.yes("leads to the root", x.proves(0, 0, 0, MIXES - 1, MIXES - 1, MIXES - 1, MIXES - 1, last));
        CHECKS.no("another one does not", x.proves(0, 0, 0, MIXES - 1, MIXES - 1, MIXES - 1, MIXES - 1, (last + 1) % MIXES));
        CHECKS.no("zeros do not", x.proves(0, 0, 0, 0, 0, 0, 0, 0));
    }

    private static void anew() {
        CHECKS.sentence("Returns the same, found by running all blocks that it comes from, and itself, anew from the first one on.");
        // Forty transactions, four in each block of a line, and forks of each block that run the rest at once.
        ForkBridge x = new ForkBridge();
        for (int n = 0; n < 40; n++) {
            x.submit(0, n % 6, n / 6, n % 7 == 0 ? 15 : n % 6 + 1, 10 + n, n, 20, 50, n % 5);
            if (n % 4 == 3) {
                x.make(0, n / 4, 5, 2);
            }
        }
        for (int parent = 0; parent < 10; parent++) {
            x.make(0, parent, parent % 6, 1);
        }
        CHECKS.same("the last number", x.transactionAt(0, 10, 3) / 10 % 100 > 35 ? 1 : 0, 1);
        for (int block = 0; block <= 20; block++) {
            CHECKS.same("block " + block, x.rootAnew(0, block), x.root(0, block));
        }
        for (int block = 20; block >= 0; block--) {
            CHECKS.same("block " + block + " behind others", x.rootAnew(0, block), x.root(0, block));
        }
        CHECKS.same("the other chain", x.rootAnew(1, 0), x.root(0, 0));
    }

    /** Slots that are cleared, contracts that are made and end, calls that fail, claims, an upgrade: all anew. */
    private static void anewOfEachKind() {
        ForkBridge x = new ForkBridge();
        Lab.program(x, 0, ForkBridge.INPUT, 0, WRITE, 0, PUSH, 3, ForkBridge.MAKE, 1, ForkBridge.DROP, 0, PUSH, 12, PUSH, 1, ForkBridge.INPUT, 0, ForkBridge.CALL, 0);
        Lab.program(x, 1, PUSH, 5, WRITE, 1, ForkBridge.INPUT, 0, ForkBridge.JUMP_IF_ZERO, 6, ForkBridge.INPUT, 0, ForkBridge.END, 0, ForkBridge.FAIL, 0);
        x.upgrade(0, 3);
        x.submit(1, 4, 0, 15, 500, 2, 20, 20, 0);
        x.make(1, 0, 5, 1);
        x.make(1, 1, 5, 1);
        for (int v = 0; v < 3; v++) {
            x.vote(1, v, 0, 1);
            x.vote(1, v, 1, 2);
        }
        x.submit(0, 0, 0, 16, 1000, 0, 20, 20, 9);
        int[] inputs = {3, 0, 12, 0, 3, 4};
        for (int n = 0; n < inputs.length; n++) {
            x.submit(0, 1, n, 6, 0, inputs[n], 500, 12, 2);
            x.claim(0, 2, n, 0, 20, 1);
            x.make(0, n, 5, 2);
            CHECKS.same("what is left of an earlier run", x.rootAnew(0, n), x.root(0, n));
            CHECKS.same("block " + (n + 1), x.rootAnew(0, n + 1), x.root(0, n + 1));
        }
        x.make(0, 1, 4, 1);
        x.make(0, 7, 4, 1);
        for (int block = 0; block < 9; block++) {
            CHECKS.same("block " + block, x.rootAnew(0, block), x.root(0, block));
        }
        CHECKS.same("the claim was paid once", x.coins(0, 6, 15), 19500);
        CHECKS.same("on the fork too", x.coins(0, 8, 15), 19500);
        CHECKS.no("which is another state", x.root(0, 8) == x.root(0, 3));
    }

    private static void finalise(ForkBridge x, int source, int block, int child) {
        for (int v = 0; v < 3; v++) {
            x.vote(0, v, source, block);
            x.vote(0, v, block, child);
        }
    }

    private static ForkBridge tree(int... parents) {
        ForkBridge x = new ForkBridge();
        for (int parent : parents) {
            x.make(0, parent, 0, 1);
        }
        return x;
    }

    /** Which blocks of so many have a dropped state, as bits. */
    private static int dropped(ForkBridge x, int count) {
        int bits = 0;
        for (int block = 0; block < count; block++) {
            bits |= Look.isDropped(x, 0, block) ? 1 << block : 0;
        }
        return bits;
    }

    private static void lowerOnes() {
        CHECKS.sentence("Drops the states of all blocks of a chain that are lower than the last final one.");
        // Lines 0, 1, 2, 3, 4 and 0, 5, 6, 7, 8, and 0, 9: the block 3 (height 3) becomes final.
        ForkBridge x = tree(0, 1, 2, 3, 0, 5, 6, 7, 0);
        finalise(x, 0, 3, 4);
        CHECKS.same("final", x.lastFinal(0), 3);
        CHECKS.same("six are lower", x.prune(0), 6);
        CHECKS.same("0, 1 and 2, and the lower ones of the forks", dropped(x, 10), 1 | 2 | 4 | 1 << 5 | 1 << 6 | 1 << 9);
        CHECKS.same("one of the same height stays", x.coins(0, 7, 0), 10000);
        CHECKS.same("itself stays", x.coins(0, 3, 0), 10000);
        CHECKS.same("the other chain's stays", x.coins(1, 0, 0), 10000);
        CHECKS.same("nothing is lower there", x.prune(1), 0);
    }

    private static void nothingLower() {
        CHECKS.sentence("Returns how many were dropped by that.");
        ForkBridge x = tree(0, 1);
        CHECKS.same("none is lower than the first block", x.prune(0), 0);
        CHECKS.same("none dropped", dropped(x, 3), 0);
        for (int v = 0; v < 3; v++) {
            x.vote(0, v, 0, 1);
        }
        CHECKS.same("a justified block is not final yet", x.prune(0), 0);
        for (int v = 0; v < 3; v++) {
            x.vote(0, v, 1, 2);
        }
        CHECKS.same("states are dropped by prune alone", dropped(x, 3), 0);
        CHECKS.same("the first one", x.prune(0), 1);
        CHECKS.same("the first one", dropped(x, 3), 1);
    }

    private static void droppedOnce() {
        CHECKS.sentence("Returns how many were dropped by that.");
        ForkBridge x = tree(0, 1, 2, 3);
        finalise(x, 0, 1, 2);
        CHECKS.same("one", x.prune(0), 1);
        CHECKS.same("none more", x.prune(0), 0);
        finalise(x, 2, 3, 4);
        CHECKS.same("final", x.lastFinal(0), 3);
        CHECKS.same("two more", x.prune(0), 2);
        CHECKS.same("three in all", dropped(x, 5), 7);
        CHECKS.same("none more", x.prune(0), 0);
        x.make(0, 3, 0, 1);
        CHECKS.same("nor by a block more", x.prune(0), 0);
        CHECKS.unchanged("a second prune", () -> pruned(), y -> y.prune(0));
    }

    private static ForkBridge pruned() {
        ForkBridge x = tree(0, 1, 0, 3, 4);
        finalise(x, 0, 1, 2);
        x.prune(0);
        return x;
    }

    private static void forksOfDroppedOnes() {
        CHECKS.sentence("Throws `IllegalStateException` if the chain has 24 blocks, or the state of the parent was dropped");
        ForkBridge x = pruned();
        CHECKS.same("the first block alone is lower", dropped(x, 6), 1);
        CHECKS.throwing("a block on it", Checks.NO_STATE, () -> x.make(0, 0, 0, 1));
        for (int parent = 1; parent < 6; parent++) {
            CHECKS.same("a block on " + parent, x.make(0, parent, 0, 1), 5 + parent);
        }
        CHECKS.same("the head comes from the final one", x.head(0), 7);
        CHECKS.same("the fork that is longer does not", x.lastFinal(0), 1);
    }

    private static void whatIsToldOfDroppedOnes() {
        CHECKS.sentence("Returns the root of the state of a block; it is told also if that was dropped.");
        Lab lab = new Lab().program(0, ForkBridge.INPUT, 0, ForkBridge.LOG, 0).call(5, 6, 7, 300);
        ForkBridge x = lab.x;
        int[] before = {x.root(0, 1), x.base(0, 1), x.used(0, 1), x.transactionAt(0, 1, 1), x.eventAt(0, 1, 0), x.bloom(0, 1), x.find(0, 7), x.rootAnew(0, 1)};
        int[] proof = {x.leaf(0, 1, 6), x.proof(0, 1, 6, 0), x.proof(0, 1, 6, 1), x.proof(0, 1, 6, 2), x.proof(0, 1, 6, 3)};
        x.make(0, 1, 5, 1);
        x.make(0, 2, 5, 1);
        finalise(x, 0, 2, 3);
        CHECKS.same("two dropped", x.prune(0), 2);
        int[] behind = {x.root(0, 1), x.base(0, 1), x.used(0, 1), x.transactionAt(0, 1, 1), x.eventAt(0, 1, 0), x.bloom(0, 1), x.find(0, 7), x.rootAnew(0, 1)};
        CHECKS.same("what is told", java.util.Arrays.toString(behind), java.util.Arrays.toString(before));
        CHECKS.yes("justified, and told so", x.isJustified(0, 0));
        CHECKS.yes("the proof leads to the root", x.proves(0, 1, 6, proof[0], proof[1], proof[2], proof[3], proof[4]));
        CHECKS.same("blocks behind it are run anew from the first one", x.rootAnew(0, 3), x.root(0, 3));
        CHECKS.same("a head is told", x.head(0), 3);
    }
}
