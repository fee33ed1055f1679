/** Counts what a test finds right and wrong, and looks an object over for changes. */
final class Checks {
    interface Call {
        void run();
    }

    static final Class<?> NO_INDEX = IndexOutOfBoundsException.class;
    static final Class<?> NO_ARGUMENT = IllegalArgumentException.class;
    static final Class<?> NO_STATE = IllegalStateException.class;

    private final String title;
    private int right;
    private int wrong;

    Checks(String title) {
        this.title = title;
    }

    void same(String what, long got, long due) {
        if (got == due) {
            right++;
        } else {
            wrong++;
            System.out.println(title + ": " + what + " answered " + got + ", due is " + due);
        }
    }

    void yes(String what, boolean got) {
        same(what, got ? 1 : 0, 1);
    }

    void no(String what, boolean got) {
        same(what, got ? 1 : 0, 0);
    }

    /** The call throws just this exception (no kind of it that the machine throws), and changes nothing. */
    void refused(ForkBridge x, String what, Class<?> due, Call call) {
        String before = look(x);
        Class<?> got = thrownBy(call);
        if (got != due) {
            wrong++;
            System.out.println(title + ": " + what + " threw " + got + ", due is " + due);
        } else if (!before.equals(look(x))) {
            wrong++;
            System.out.println(title + ": " + what + " threw, and changed something");
        } else {
            right++;
        }
    }

    static Class<?> thrownBy(Call call) {
        try {
            call.run();
        } catch (RuntimeException e) {
            return e.getClass();
        }
        return null;
    }

    void end() {
        System.out.println(title + ": " + right + " right, " + wrong + " wrong");
        if (wrong != 0 || right == 0) {
            System.exit(1);
        }
    }

    /** All that can be asked of an object. */
    static String look(ForkBridge x) {
        StringBuilder all = new StringBuilder();
        for (int chain = 0; chain < 2; chain++) {
            all.append("\nchain ").append(chain).append(' ').append(x.pool(chain)).append(' ').append(x.head(chain))
                .append(' ').append(x.lastFinal(chain));
            for (int topic = 0; topic < 16; topic++) {
                all.append(' ').append(x.find(chain, topic));
            }
            for (int validator = 0; validator < 4; validator++) {
                all.append(' ').append(x.stake(chain, validator));
            }
            for (int block = 0; block < blocksOf(x, chain); block++) {
                lookAtBlock(x, chain, block, all);
            }
        }
        return all.toString();
    }

    static int blocksOf(ForkBridge x, int chain) {
        int count = 0;
        while (hasBlock(x, chain, count)) {
            count++;
        }
        return count;
    }

    private static boolean hasBlock(ForkBridge x, int chain, int block) {
        return thrownBy(() -> x.base(chain, block)) == null;
    }

    private static void lookAtBlock(ForkBridge x, int chain, int block, StringBuilder all) {
        all.append("\nblock ").append(block).append(' ').append(x.base(chain, block)).append(' ').append(x.used(chain, block))
            .append(' ').append(x.bloom(chain, block)).append(' ').append(x.root(chain, block))
            .append(' ').append(x.isJustified(chain, block)).append(" transactions");
        for (int place = 0; place < countTransactions(x, chain, block); place++) {
            all.append(' ').append(x.transactionAt(chain, block, place));
        }
        all.append(" events");
        for (int place = 0; place < countEvents(x, chain, block); place++) {
            all.append(' ').append(x.eventAt(chain, block, place));
        }
        if (isDropped(x, chain, block)) {
            all.append(" dropped");
            return;
        }
        all.append(" burned ").append(x.burned(chain, block));
        for (int account = 0; account < 16; account++) {
            all.append(" / ").append(x.coins(chain, block, account)).append(' ').append(x.codeOf(chain, block, account));
            for (int slot = 0; slot < 4; slot++) {
                all.append(' ').append(x.slot(chain, block, account, slot));
            }
        }
    }

    static boolean isDropped(ForkBridge x, int chain, int block) {
        return thrownBy(() -> x.burned(chain, block)) != null;
    }

    static int countTransactions(ForkBridge x, int chain, int block) {
        int count = 0;
        while (hasTransaction(x, chain, block, count)) {
            count++;
        }
        return count;
    }

    private static boolean hasTransaction(ForkBridge x, int chain, int block, int place) {
        return thrownBy(() -> x.transactionAt(chain, block, place)) == null;
    }

    static int countEvents(ForkBridge x, int chain, int block) {
        int count = 0;
        while (hasEvent(x, chain, block, count)) {
            count++;
        }
        return count;
    }

    private static boolean hasEvent(ForkBridge x, int chain, int block, int place) {
        return thrownBy(() -> x.eventAt(chain, block, place)) == null;
    }
}
