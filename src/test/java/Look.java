import java.util.function.LongSupplier;

/** Looks an object over, with few calls, for it can be asked but 512 of them. */
final class Look {
    private Look() {
    }

    /** The heads, and what was voted: some twenty calls. */
    static String glance(ForkBridge x) {
        StringBuilder all = new StringBuilder();
        for (int chain = 0; chain < 2; chain++) {
            int head = x.head(chain);
            all.append(" chain ").append(chain).append(": ").append(head).append(' ').append(x.pool(chain))
                .append(' ').append(x.lastFinal(chain)).append(' ').append(x.root(chain, head)).append(' ').append(x.isJustified(chain, head));
            for (int validator = 0; validator < 4; validator++) {
                all.append(' ').append(x.stake(chain, validator));
            }
        }
        return all.toString();
    }

    /** All blocks: some ten calls for each; the root stands for the accounts of its state. */
    static String all(ForkBridge x) {
        StringBuilder all = new StringBuilder(glance(x));
        for (int chain = 0; chain < 2; chain++) {
            int count = countBlocks(x, chain);
            for (int block = 0; block < count; block++) {
                lookAtBlock(x, chain, block, all);
            }
        }
        return all.toString();
    }

    private static void lookAtBlock(ForkBridge x, int chain, int block, StringBuilder all) {
        all.append(" block ").append(block).append(": ").append(x.base(chain, block)).append(' ').append(x.used(chain, block))
            .append(' ').append(x.bloom(chain, block)).append(' ').append(x.root(chain, block)).append(' ').append(x.isJustified(chain, block))
            .append(' ').append(outcome(() -> x.burned(chain, block))).append(" transactions");
        int transactions = x.used(chain, block) == 0 ? 0 : countTransactions(x, chain, block);
        for (int place = 0; place < transactions; place++) {
            all.append(' ').append(x.transactionAt(chain, block, place));
        }
        int events = x.bloom(chain, block) == 0 ? 0 : countEvents(x, chain, block);
        for (int place = 0; place < events; place++) {
            all.append(' ').append(x.eventAt(chain, block, place));
        }
    }

    /** What an object answers when it goes on: it changes the object, and tells what can't be asked, as pools, steps and votes. */
    static String later(ForkBridge x) {
        StringBuilder all = new StringBuilder();
        for (int program = 0; program < 8; program++) {
            int p = program;
            all.append(" steps ").append(outcome(() -> x.step(p, ForkBridge.STOP, 0)));
        }
        for (int chain = 0; chain < 2; chain++) {
            int c = chain;
            int head = x.head(chain);
            all.append(" upgrade ").append(outcome(() -> x.upgrade(c, 1000)));
            all.append(" number ").append(outcome(() -> x.submit(c, 5, 9, 0, 0, 0, 20, 100, 100)));
            all.append(" block ").append(outcome(() -> x.make(c, head, 4, 9)));
            for (int validator = 0; validator < 4; validator++) {
                int v = validator;
                all.append(" vote ").append(outcome(() -> x.vote(c, v, x.lastFinal(c), head) ? 1 : 0)).append(' ').append(x.stake(chain, v));
            }
            all.append(" prune ").append(x.prune(chain));
            lookAtBlock(x, chain, x.head(chain), all);
        }
        return all.append(glance(x)).toString();
    }

    /** The answer, or the exception's name. */
    static String outcome(LongSupplier call) {
        try {
            return Long.toString(call.getAsLong());
        } catch (RuntimeException e) {
            return e.getClass().getSimpleName();
        }
    }

    private static boolean answers(LongSupplier call) {
        return Checks.thrownBy(call::getAsLong) == null;
    }

    static int countBlocks(ForkBridge x, int chain) {
        int count = 0;
        while (hasBlock(x, chain, count)) {
            count++;
        }
        return count;
    }

    private static boolean hasBlock(ForkBridge x, int chain, int block) {
        return answers(() -> x.base(chain, block));
    }

    static boolean isDropped(ForkBridge x, int chain, int block) {
        return !answers(() -> x.burned(chain, block));
    }

    static int countTransactions(ForkBridge x, int chain, int block) {
        int count = 0;
        while (hasTransaction(x, chain, block, count)) {
            count++;
        }
        return count;
    }

    private static boolean hasTransaction(ForkBridge x, int chain, int block, int place) {
        return answers(() -> x.transactionAt(chain, block, place));
    }

    static int countEvents(ForkBridge x, int chain, int block) {
        int count = 0;
        while (hasEvent(x, chain, block, count)) {
            count++;
        }
        return count;
    }

    private static boolean hasEvent(ForkBridge x, int chain, int block, int place) {
        return answers(() -> x.eventAt(chain, block, place));
    }
}
