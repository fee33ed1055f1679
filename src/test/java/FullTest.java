/** One object with all that it can have, in just 512 calls: 160 steps, 80 transactions, 48 blocks and 160 votes. */
public final class FullTest {
    private static final Checks CHECKS = new Checks("FullTest");
    private static final ForkBridge FULL = new ForkBridge();
    private static int calls;

    public static void main(String[] args) {
        CHECKS.sentence("An object is used for at most 512 calls after it has been made;");
        steps();
        transactionsAndBlocks();
        votes();
        questions();
        CHECKS.same("calls", calls, 512);
        CHECKS.end();
    }

    private static void due(String what, long got, long due) {
        calls++;
        CHECKS.same(what + " in the call " + calls, got, due);
    }

    private static void refused(String what, Checks.Call call) {
        calls++;
        CHECKS.throwing(what + " in the call " + calls, Checks.NO_STATE, call);
    }

    private static void steps() {
        for (int program = 0; program < 8; program++) {
            for (int n = 1; n <= 20; n++) {
                due("step", FULL.step(program, n % 2 == 1 ? ForkBridge.PUSH : ForkBridge.DROP, 0), n);
            }
        }
    }

    /** Ten transactions in each of the blocks 1 to 4: values to the bridge, and a contract of each person at first. */
    private static void transactionsAndBlocks() {
        for (int n = 0; n < 40; n++) {
            for (int chain = 0; chain < 2; chain++) {
                due("number", FULL.submit(chain, n % 6, n / 6, n < 6 ? 16 + n : 15, 1, n, 20, 20, 0), n);
                if (n % 10 == 9) {
                    due("block", FULL.make(chain, n / 10, 5, 1), n / 10 + 1);
                }
            }
        }
        for (int parent = 4; parent < 23; parent++) {
            for (int chain = 0; chain < 2; chain++) {
                due("block", FULL.make(chain, parent, 5, 9), parent + 1);
            }
        }
    }

    /** All vote for each block from its parent: the third vote of four justifies it. */
    private static void votes() {
        for (int source = 0; source < 20; source++) {
            for (int v = 0; v < 4; v++) {
                for (int chain = 0; chain < 2; chain++) {
                    due("vote", FULL.vote(chain, v, source, source + 1) ? 1 : 0, 1);
                }
            }
        }
    }

    private static void questions() {
        refused("a 21st vote", () -> FULL.vote(0, 3, 20, 21));
        refused("a 25th block", () -> FULL.make(1, 23, 0, 1));
        refused("a 41st transaction", () -> FULL.submit(0, 0, 9, 0, 0, 0, 20, 100, 100));
        refused("a 41st transaction, a claim", () -> FULL.claim(1, 0, 9, 39, 100, 100));
        refused("a 21st step", () -> FULL.step(7, 0, 0));
        refused("an upgrade", () -> FULL.upgrade(0, 5));
        for (int chain = 0; chain < 2; chain++) {
            due("last final", FULL.lastFinal(chain), 19);
            due("head", FULL.head(chain), 23);
            due("pool", FULL.pool(chain), 0);
            due("states that are dropped", FULL.prune(chain), 19);
            due("coins of the bridge: six of forty made contracts", FULL.coins(chain, 23, 15), 20034);
            due("burned", FULL.burned(chain, 23), 4 * 200 * 9);
        }
        // The roots of the last block are asked for until the calls are used up.
        int root = FULL.root(0, 23);
        calls++;
        while (calls < 512) {
            due("root anew", FULL.rootAnew(calls % 2, 23), root);
        }
    }
}
