/** Promises 7 to 14: blocks, the head, bases, results, events and blooms. */
public final class BlocksTest {
    private static final Checks CHECKS = new Checks("BlocksTest");

    public static void main(String[] args) {
        making();
        refusals();
        heads();
        ties();
        bases();
        order();
        gasRoom();
        results();
        finding();
        questionsRefused();
        CHECKS.end();
    }

    private static void making() {
        ForkBridge x = new ForkBridge();
        for (int b = 1; b < 24; b++) {
            CHECKS.same("number", x.make(0, b - 1, b % 6, 1 + b % 9), b);
        }
        CHECKS.same("head", x.head(0), 23);
        CHECKS.refused(x, "a 25th block", Checks.NO_STATE, () -> x.make(0, 23, 0, 1));
        CHECKS.refused(x, "a 25th block of weight 0", Checks.NO_ARGUMENT, () -> x.make(0, 23, 0, 0));
        CHECKS.refused(x, "a 25th block of nobody", Checks.NO_INDEX, () -> x.make(0, 23, 6, 0));
        CHECKS.same("the other chain has room", x.make(1, 0, 0, 9), 1);
        CHECKS.same("and is apart", x.head(1), 1);
    }

    private static void refusals() {
        ForkBridge x = new ForkBridge();
        x.make(0, 0, 0, 1);
        int[][] none = {{-1, 0, 0, 1}, {2, 0, 0, 1}, {0, -1, 0, 1}, {0, 2, 0, 1}, {1, 1, 0, 1}, {0, 0, -1, 1}, {0, 0, 6, 1}, {0, 0, 6, 0}};
        for (int[] a : none) {
            CHECKS.throwing("make " + java.util.Arrays.toString(a), Checks.NO_INDEX, () -> x.make(a[0], a[1], a[2], a[3]));
        }
        CHECKS.throwing("weight 0", Checks.NO_ARGUMENT, () -> x.make(0, 0, 0, 0));
        CHECKS.throwing("weight 10", Checks.NO_ARGUMENT, () -> x.make(0, 0, 0, 10));
        CHECKS.throwing("head of 2", Checks.NO_INDEX, () -> x.head(2));
        CHECKS.throwing("head of -1", Checks.NO_INDEX, () -> x.head(-1));
        for (int v = 0; v < 3; v++) {
            x.vote(0, v, 0, 1);
        }
        x.make(0, 1, 0, 1);
        for (int v = 0; v < 3; v++) {
            x.vote(0, v, 1, 2);
        }
        CHECKS.same("block 0 is dropped", x.prune(0), 1);
        CHECKS.throwing("a dropped parent", Checks.NO_STATE, () -> x.make(0, 0, 0, 1));
        CHECKS.throwing("a dropped parent, weight 10", Checks.NO_ARGUMENT, () -> x.make(0, 0, 0, 10));
        CHECKS.same("one that is not dropped", x.make(0, 1, 0, 1), 3);
    }

    private static void heads() {
        ForkBridge x = new ForkBridge();
        x.make(0, 0, 0, 2);
        x.make(0, 0, 0, 3);
        CHECKS.same("the heavier one", x.head(0), 2);
        x.make(0, 1, 0, 2);
        CHECKS.same("the total counts", x.head(0), 3);
        x.make(0, 2, 0, 1);
        CHECKS.same("of the same total the lowest", x.head(0), 3);
        x.make(0, 2, 0, 2);
        CHECKS.same("a greater total", x.head(0), 5);
    }

    private static void ties() {
        ForkBridge x = new ForkBridge();
        x.make(0, 0, 0, 1);
        x.make(0, 1, 0, 1);
        x.make(0, 0, 0, 2);
        CHECKS.same("of the same total the lowest number, whatever the heights", x.head(0), 2);
        ForkBridge y = new ForkBridge();
        y.make(0, 0, 0, 2);
        y.make(0, 0, 0, 1);
        y.make(0, 2, 0, 1);
        CHECKS.same("of the same total the lowest number", y.head(0), 1);
    }

    /** A chain of blocks, each with one transaction that uses up the gas. */
    private static ForkBridge busy(int gas) {
        ForkBridge x = new ForkBridge();
        x.step(0, ForkBridge.JUMP, 0);
        x.submit(0, 0, 0, 16, 0, 0, 20, 20, 0);
        x.make(0, 0, 5, 1);
        for (int n = 0; n < 5; n++) {
            x.submit(0, 1 + n, 0, 6, 0, 0, gas, 16, 0);
            x.make(0, 1 + n, 5, 1);
        }
        return x;
    }

    private static void bases() {
        ForkBridge idle = new ForkBridge();
        int[] due = {10, 9, 8, 7, 7, 7, 7, 7};
        for (int b = 0; b < due.length; b++) {
            CHECKS.same("base of the idle block " + b, idle.base(0, b), due[b]);
            idle.make(0, b, 0, 1);
        }
        ForkBridge full = busy(600);
        int[] rising = {10, 9, 8, 9, 10, 11, 12};
        for (int b = 0; b < rising.length; b++) {
            CHECKS.same("base of the full block " + b, full.base(0, b), rising[b]);
        }
        CHECKS.same("used", full.used(0, 2), 600);
        ForkBridge half = busy(300);
        CHECKS.same("300 gas keep the base", half.base(0, 4), half.base(0, 3));
        ForkBridge fork = busy(600);
        fork.make(0, 5, 0, 1);
        CHECKS.same("a fork's base comes from its parent", fork.base(0, 7), 12);
        CHECKS.same("the transaction of the block 6 is in this one too", fork.used(0, 7), 600);
        fork.make(0, 6, 0, 1);
        CHECKS.same("what is in itself does not count", fork.base(0, 8) * 1000 + fork.used(0, 8), 13000);
    }

    private static void order() {
        ForkBridge x = new ForkBridge();
        x.submit(0, 0, 0, 1, 0, 0, 20, 12, 5);
        x.submit(0, 1, 0, 1, 0, 0, 20, 30, 4);
        x.submit(0, 2, 0, 1, 0, 0, 20, 13, 12);
        x.submit(0, 3, 0, 1, 0, 0, 20, 30, 4);
        x.submit(0, 4, 0, 1, 0, 0, 20, 8, 8);
        x.submit(0, 1, 1, 1, 0, 0, 20, 100, 90);
        x.make(0, 0, 5, 1);
        // Base 9: prices less base are 3, 4, 4, 4, none, and 90 as soon as the nonce is there.
        int[] due = {1, 5, 2, 3, 0};
        for (int place = 0; place < due.length; place++) {
            CHECKS.same("place " + place, x.transactionAt(0, 1, place), 2000000 + 10 * due[place] + 1);
        }
        CHECKS.same("one has too low a most", x.pool(0), 1);
        x.make(0, 1, 5, 1);
        CHECKS.same("base", x.base(0, 2), 9);
        x.make(0, 2, 5, 1);
        CHECKS.same("at the base 8 it is fit", x.transactionAt(0, 3, 0), 2000041);
    }

    private static void gasRoom() {
        ForkBridge x = new ForkBridge();
        x.step(0, ForkBridge.JUMP, 0);
        x.submit(0, 0, 0, 16, 0, 0, 20, 20, 9);
        x.submit(0, 1, 0, 6, 0, 0, 400, 20, 8);
        x.submit(0, 2, 0, 6, 0, 0, 181, 20, 7);
        x.submit(0, 3, 0, 6, 0, 0, 180, 20, 6);
        x.submit(0, 4, 0, 6, 0, 0, 20, 20, 5);
        x.make(0, 0, 5, 1);
        CHECKS.same("made", x.transactionAt(0, 1, 0), 2000001);
        CHECKS.same("400", x.transactionAt(0, 1, 1), 40000010);
        CHECKS.same("180 fits just, 181 does not", x.transactionAt(0, 1, 2), 18000030);
        CHECKS.same("no more", Look.countTransactions(x, 0, 1), 3);
        CHECKS.same("full", x.used(0, 1), 600);
        CHECKS.same("two wait", x.pool(0), 2);
        x.make(0, 1, 5, 1);
        CHECKS.same("in the next one", x.used(0, 2), 201);
        CHECKS.same("none waits", x.pool(0), 0);
    }

    private static void results() {
        Lab lab = new Lab().program(0, ForkBridge.INPUT, 0, ForkBridge.LOG, 0, ForkBridge.INPUT, 0, ForkBridge.JUMP_IF_ZERO, 5, ForkBridge.STOP, 0, ForkBridge.FAIL, 0);
        ForkBridge x = lab.x;
        x.submit(0, 0, 0, 16, 0, 0, 20, 20, 9);
        x.submit(0, 1, 0, 6, 0, 3, 60, 20, 3);
        x.submit(0, 2, 0, 6, 0, 0, 60, 20, 2);
        x.submit(0, 3, 0, 6, 0, 21, 60, 20, 1);
        x.make(0, 0, 5, 1);
        CHECKS.same("well", x.transactionAt(0, 1, 1), 100000 * 49 + 11);
        CHECKS.same("badly", x.transactionAt(0, 1, 2), 100000 * 49 + 20);
        CHECKS.same("events in order, without the undone", x.eventAt(0, 1, 0), 306);
        CHECKS.same("events in order, without the undone", x.eventAt(0, 1, 1), 506);
        CHECKS.same("two events", Look.countEvents(x, 0, 1), 2);
        CHECKS.same("the bloom of 3 and 5", x.bloom(0, 1), 1 << 3 | 1 << 8 + 2 | 1 << 5 | 1 << 8 + 4);
        x.make(0, 1, 5, 1);
        CHECKS.same("the next one has none", x.bloom(0, 2), 0);
        CHECKS.same("the next one has none", Look.countEvents(x, 0, 2) + Look.countTransactions(x, 0, 2), 0);
        CHECKS.same("used is of one block", x.used(0, 2), 0);
    }

    private static void finding() {
        Lab lab = new Lab().program(0, ForkBridge.INPUT, 0, ForkBridge.LOG, 0, ForkBridge.VALUE, 0, ForkBridge.LOG, 0);
        ForkBridge x = lab.call(0, 3, 2, 300).x;
        CHECKS.same("topic 2", x.find(0, 2), 101);
        CHECKS.same("topic 3", x.find(0, 3), 101);
        CHECKS.same("topic 4", x.find(0, 4), 0);
        // The topic t and t + 8 share both bits: 8 more is 40 more, which is 0 modulo 8.
        CHECKS.same("topic 10 has the bits of 2, but no event", x.find(0, 10), 100);
        x.submit(0, 1, 1, 6, 2, 2, 300, 20, 0);
        x.make(0, 1, 5, 1);
        CHECKS.same("two blocks, three events", x.find(0, 2), 203);
        CHECKS.same("one block", x.find(0, 3), 101);
        x.make(0, 0, 5, 9);
        CHECKS.same("the new head has all in one block", x.find(0, 2), 103);
        CHECKS.same("of the head, not of the other blocks", x.find(0, 3), 101);
        CHECKS.same("not on the other chain", x.find(1, 2), 0);
        CHECKS.refused(x, "topic -1", Checks.NO_ARGUMENT, () -> x.find(0, -1));
        CHECKS.refused(x, "topic 16", Checks.NO_ARGUMENT, () -> x.find(1, 16));
        CHECKS.refused(x, "chain 2 and topic 16", Checks.NO_INDEX, () -> x.find(2, 16));
        Lab half = new Lab().program(0, ForkBridge.INPUT, 0, ForkBridge.LOG, 0);
        CHECKS.same("topic 15", half.call(0, 0, 15, 300).x.find(0, 15), 101);
        CHECKS.same("topic 0", half.x.find(0, 0), 0);
    }

    private static void questionsRefused() {
        ForkBridge x = Lab.of(ForkBridge.INPUT, 0, ForkBridge.LOG, 0).x;
        int[][] none = {{-1, 0}, {2, 0}, {0, -1}, {0, 2}, {1, 1}, {0, Integer.MAX_VALUE}};
        for (int[] a : none) {
            String of = " of " + java.util.Arrays.toString(a);
            CHECKS.throwing("base" + of, Checks.NO_INDEX, () -> x.base(a[0], a[1]));
            CHECKS.throwing("used" + of, Checks.NO_INDEX, () -> x.used(a[0], a[1]));
            CHECKS.throwing("bloom" + of, Checks.NO_INDEX, () -> x.bloom(a[0], a[1]));
            CHECKS.throwing("transactionAt" + of, Checks.NO_INDEX, () -> x.transactionAt(a[0], a[1], 0));
            CHECKS.throwing("eventAt" + of, Checks.NO_INDEX, () -> x.eventAt(a[0], a[1], 0));
        }
        CHECKS.same("the last transaction", x.transactionAt(0, 1, 1) % 100, 11);
        CHECKS.same("the last event", x.eventAt(0, 1, 0), 1006);
        for (int place : new int[] {-1, 2, Integer.MAX_VALUE, Integer.MIN_VALUE}) {
            CHECKS.throwing("transaction " + place, Checks.NO_INDEX, () -> x.transactionAt(0, 1, place));
            CHECKS.throwing("event " + place, Checks.NO_INDEX, () -> x.eventAt(0, 1, place));
        }
        CHECKS.throwing("event 1 of 1", Checks.NO_INDEX, () -> x.eventAt(0, 1, 1));
        CHECKS.throwing("the first block has no transaction", Checks.NO_INDEX, () -> x.transactionAt(0, 0, 0));
    }
}
