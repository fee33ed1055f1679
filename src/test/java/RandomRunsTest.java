import java.util.Random;
import java.util.function.LongSupplier;

/** Runs of 512 calls, drawn with fixed seeds, that the class and the model must answer alike. */
public final class RandomRunsTest {
    private static final int RUNS = 400;
    private static final int CALLS = 512;
    private static final int MOST_OF_AN_ACT = 4;

    private final Checks checks;
    private final Random random;
    private final int seed;
    private final ForkBridge x = new ForkBridge();
    private final Model m = new Model();
    private int calls;
    /** How often, of 100, a vote strays from the head's line; and how many programs share the steps. */
    private final int straying;
    private final int programs;

    private RandomRunsTest(Checks checks, int seed) {
        this.checks = checks;
        this.seed = seed;
        random = new Random(seed);
        straying = seed % 3 == 0 ? 40 : 2;
        programs = 2 + seed % 7;
    }

    public static void main(String[] args) {
        Checks checks = new Checks("RandomRunsTest");
        for (int seed = 0; seed < RUNS; seed++) {
            new RandomRunsTest(checks, seed).run();
        }
        checks.end();
    }

    private static final long INDEX = Long.MIN_VALUE;
    private static final long ARGUMENT = Long.MIN_VALUE + 1;
    private static final long STATE = Long.MIN_VALUE + 2;
    private static final long OTHER = Long.MIN_VALUE + 3;

    private static long outcome(LongSupplier call) {
        try {
            return call.getAsLong();
        } catch (RuntimeException e) {
            Class<?> c = e.getClass();
            return c == Checks.NO_INDEX ? INDEX : c == Checks.NO_ARGUMENT ? ARGUMENT : c == Checks.NO_STATE ? STATE : OTHER;
        }
    }

    private long both(String what, LongSupplier own, LongSupplier due) {
        calls++;
        long wanted = outcome(due);
        checks.same("seed " + seed + " call " + calls + " " + what, outcome(own), wanted);
        return wanted;
    }

    private int below(int bound) {
        return random.nextInt(bound);
    }

    private boolean chance(int percent) {
        return below(100) < percent;
    }

    /** A number from 0 to the count less 1, seldom one beside that. */
    private int near(int count) {
        return chance(2) ? (chance(50) ? -1 : count) : count > 0 ? below(count) : 0;
    }

    private void run() {
        int steps = 20 + below(20 * programs);
        while (calls < steps) {
            piece(chance(95) ? below(programs) : near(8));
        }
        for (int chain = 0; chain < 2; chain++) {
            if (chance(60)) {
                upgrade(chain, 1 + below(8));
            }
        }
        for (int p = 0; p < 12; p++) {
            submit(p / 6, p % 6, 0, 16 + below(programs), below(300), 0, 20 + below(60), 12 + below(9), 3);
        }
        while (calls + MOST_OF_AN_ACT <= CALLS) {
            act();
        }
    }

    private void upgrade(int chain, int height) {
        both("upgrade", () -> x.upgrade(chain, height), () -> m.upgrade(chain, height));
    }

    private void step(int program, int operation, int argument) {
        both("step " + program + " " + operation + " " + argument,
            () -> x.step(program, operation, argument), () -> m.step(program, operation, argument));
    }

    /** Some steps that are likely to do something together. */
    private void piece(int program) {
        switch (below(17)) {
            case 0, 14, 15, 16 -> {
                step(program, ForkBridge.PUSH, chance(90) ? 6 + below(9) : below(17));
                step(program, ForkBridge.PUSH, below(60));
                step(program, chance(50) ? ForkBridge.INPUT : ForkBridge.PUSH, 0);
                step(program, ForkBridge.CALL, 0);
                step(program, chance(50) ? ForkBridge.WRITE : ForkBridge.JUMP_IF_ZERO, below(4));
            }
            case 1 -> {
                step(program, ForkBridge.INPUT, 0);
                step(program, ForkBridge.LOG, 0);
            }
            case 2, 3 -> {
                step(program, ForkBridge.PUSH, chance(50) ? 0 : below(9999));
                step(program, ForkBridge.WRITE, near(4));
            }
            case 4 -> {
                step(program, ForkBridge.PUSH, below(60));
                step(program, ForkBridge.MAKE, near(8));
                step(program, chance(50) ? ForkBridge.WRITE : ForkBridge.DROP, 0);
            }
            case 5 -> {
                if (chance(40)) {
                    step(program, ForkBridge.INPUT, 0);
                    step(program, ForkBridge.END, 0);
                }
            }
            case 6 -> {
                step(program, ForkBridge.CALLER, 0);
                step(program, ForkBridge.PUT, near(16));
                step(program, ForkBridge.GET, below(16));
            }
            case 7 -> {
                step(program, ForkBridge.READ, near(4));
                step(program, ForkBridge.VALUE, 0);
                step(program, 1 + below(5), 0);
                step(program, ForkBridge.WRITE, below(4));
            }
            case 8 -> {
                step(program, ForkBridge.INPUT, 0);
                step(program, ForkBridge.COINS, 0);
                step(program, ForkBridge.DOUBLE, 0);
                step(program, ForkBridge.MUL, 0);
                step(program, ForkBridge.WRITE, below(4));
            }
            case 9 -> step(program, ForkBridge.JUMP, chance(70) ? 20 - below(8) : near(21));
            case 10 -> {
                step(program, ForkBridge.INPUT, 0);
                step(program, ForkBridge.JUMP_IF_ZERO, near(21));
                if (chance(30)) {
                    step(program, chance(60) ? ForkBridge.FAIL : ForkBridge.STOP, 0);
                }
            }
            case 11 -> {
                step(program, ForkBridge.PUSH, below(9));
                step(program, ForkBridge.PUSH, below(9));
                step(program, 1 + below(8), 0);
            }
            case 12 -> {
                step(program, ForkBridge.READ, below(4));
                step(program, ForkBridge.PUSH, 1);
                step(program, chance(50) ? ForkBridge.SUB : ForkBridge.ADD, 0);
                step(program, ForkBridge.WRITE, below(4));
            }
            default -> step(program, near(25), near(chance(50) ? 1 : 21));
        }
    }

    private void submit(int chain, int sender, int nonce, int target, int value, int input, int gas, int most, int tip) {
        both("submit " + chain + " " + sender + " " + nonce + " " + target + " " + value + " " + input + " " + gas + " " + most + " " + tip,
            () -> x.submit(chain, sender, nonce, target, value, input, gas, most, tip),
            () -> m.submit(chain, sender, nonce, target, value, input, gas, most, tip));
    }

    private int blocks(int chain) {
        return m.sides[Math.min(1, Math.max(0, chain))].blocks.size();
    }

    private int likelyNonce(int chain, int sender) {
        Model.Side side = m.sides[Math.min(1, Math.max(0, chain))];
        Model.Block b = side.blocks.get(chance(80) ? m.head(chain < 1 ? 0 : 1) : below(side.blocks.size()));
        int nonce = b.world.accounts[Math.min(5, Math.max(0, sender))].nonce;
        return Math.min(chance(3) ? 10 : 9, nonce + (chance(40) ? below(3) : 0));
    }

    private void act() {
        int chain = chance(1) ? 2 : below(2);
        int kind = below(100);
        if (kind < 20) {
            trade(chain);
        } else if (kind < 25) {
            bridge(chain);
        } else if (kind < 37) {
            int parent = chance(60) ? m.head(chain < 1 ? 0 : 1) : near(blocks(chain));
            int producer = near(6);
            int weight = 1 + near(4);
            both("make " + chain + " " + parent + " " + producer + " " + weight,
                () -> x.make(chain, parent, producer, weight), () -> m.make(chain, parent, producer, weight));
        } else if (kind < 52) {
            vote(chain);
        } else if (kind < 54 && chance(30)) {
            both("prune", () -> x.prune(chain), () -> m.prune(chain));
        } else if (kind < 55) {
            step(near(8), 0, 1);
        } else if (kind < 56) {
            upgrade(chain, near(1001));
        } else if (kind < 66) {
            askChain(chain);
        } else {
            askBlock(chain, chance(30) ? m.head(chain < 1 ? 0 : 1) : near(blocks(chain)));
        }
    }

    private void trade(int chain) {
        int sender = near(6);
        int nonce = likelyNonce(chain, sender);
        int target = chance(15) ? 15 : chance(50) ? 6 + below(9) : near(24);
        int value = chance(70) ? below(80) : chance(60) ? below(10001) : near(10001);
        int input = chance(50) ? below(20) : near(10000);
        int gas = chance(60) ? 100 + below(501) : 20 + near(581);
        int most = chance(90) ? 8 + below(20) : 1 + near(100);
        int tip = chance(80) ? below(Math.max(1, Math.min(8, most))) : near(most + 1);
        submit(chain, sender, nonce, target, value, input, gas, most, tip);
    }

    private void bridge(int chain) {
        int other = chain == 0 ? 1 : 0;
        int count = m.sides[other].txs.size();
        int pick = near(count);
        for (int tries = 0; tries < 40 && chance(97); tries++) {
            int lock = near(count);
            if (lock >= 0 && lock < count && m.sides[other].txs.get(lock).target == 15 && m.sides[other].txs.get(lock).value > 0) {
                pick = lock;
                if (m.sides[other].last.has(m.sides[other].txs.get(lock))) {
                    break;
                }
            }
        }
        int lock = pick;
        int sender = near(6);
        int nonce = likelyNonce(chain, sender);
        int most = 8 + below(20);
        int tip = near(Math.min(most, 6));
        both("claim " + chain + " " + sender + " " + nonce + " " + lock + " " + most + " " + tip,
            () -> x.claim(chain, sender, nonce, lock, most, tip), () -> m.claim(chain, sender, nonce, lock, most, tip));
    }

    private void vote(int chain) {
        Model.Side side = m.sides[Math.min(1, chain)];
        Model.Block to = chance(100 - straying) ? side.blocks.get(m.head(Math.min(1, chain))) : side.blocks.get(below(side.blocks.size()));
        Model.Block from = to.parent == null || chance(3) ? side.blocks.get(below(side.blocks.size())) : to.parent;
        while (chance(straying / 3) && from.parent != null) {
            from = from.parent;
        }
        int source = chance(1) ? -1 : from.number;
        int target = to.number;
        for (int v = 0; v < 4; v++) {
            int validator = chance(3) ? near(4) : v;
            if (chance(75)) {
                both("vote " + chain + " " + validator + " " + source + " " + target,
                    () -> x.vote(chain, validator, source, target) ? 1 : 0,
                    () -> m.vote(chain, validator, source, target) ? 1 : 0);
            }
        }
    }

    private void askChain(int chain) {
        int v = near(4);
        int topic = near(16);
        switch (below(5)) {
            case 0 -> both("pool " + chain, () -> x.pool(chain), () -> m.pool(chain));
            case 1 -> both("head " + chain, () -> x.head(chain), () -> m.head(chain));
            case 2 -> both("find " + chain + " " + topic, () -> x.find(chain, topic), () -> m.find(chain, topic));
            case 3 -> both("lastFinal " + chain, () -> x.lastFinal(chain), () -> m.lastFinal(chain));
            default -> both("stake " + chain + " " + v, () -> x.stake(chain, v), () -> m.stake(chain, v));
        }
    }

    private void askBlock(int chain, int block) {
        int a = near(16);
        int n = near(4);
        String at = " " + chain + " " + block + " " + a + " " + n;
        switch (below(15)) {
            case 0 -> both("base" + at, () -> x.base(chain, block), () -> m.base(chain, block));
            case 1 -> both("used" + at, () -> x.used(chain, block), () -> m.used(chain, block));
            case 2, 3 -> both("transactionAt" + at, () -> x.transactionAt(chain, block, n), () -> m.transactionAt(chain, block, n));
            case 4 -> both("eventAt" + at, () -> x.eventAt(chain, block, n), () -> m.eventAt(chain, block, n));
            case 5 -> both("bloom" + at, () -> x.bloom(chain, block), () -> m.bloom(chain, block));
            case 6 -> both("coins" + at, () -> x.coins(chain, block, a), () -> m.coins(chain, block, a));
            case 7 -> both("codeOf" + at, () -> x.codeOf(chain, block, a), () -> m.codeOf(chain, block, a));
            case 8 -> both("slot" + at, () -> x.slot(chain, block, a, n), () -> m.slot(chain, block, a, n));
            case 9 -> both("burned" + at, () -> x.burned(chain, block), () -> m.burned(chain, block));
            case 10 -> both("root" + at, () -> x.root(chain, block), () -> m.root(chain, block));
            case 11 -> both("rootAnew" + at, () -> x.rootAnew(chain, block), () -> m.rootAnew(chain, block));
            case 12 -> both("leaf" + at, () -> x.leaf(chain, block, a), () -> m.leaf(chain, block, a));
            case 13 -> {
                both("proof" + at, () -> x.proof(chain, block, a, n), () -> m.proof(chain, block, a, n));
                proves(chain, block, a);
            }
            default -> both("isJustified" + at, () -> x.isJustified(chain, block) ? 1 : 0, () -> m.isJustified(chain, block) ? 1 : 0);
        }
    }

    private void proves(int chain, int block, int account) {
        int[] p = new int[5];
        p[0] = (int) Math.max(-1, outcome(() -> m.leaf(chain, block, account)));
        for (int r = 0; r < 4; r++) {
            int round = r;
            p[r + 1] = (int) Math.max(-1, outcome(() -> m.proof(chain, block, account, round)));
        }
        if (chance(40)) {
            p[below(5)] = near(1000003);
        }
        both("proves", () -> x.proves(chain, block, account, p[0], p[1], p[2], p[3], p[4]) ? 1 : 0,
            () -> m.proves(chain, block, account, p[0], p[1], p[2], p[3], p[4]) ? 1 : 0);
    }
}
