/** Promises 25 to 28: votes, punishments, and what becomes justified and final. */
public final class VotesTest {
    private static final Checks CHECKS = new Checks("VotesTest");

    public static void main(String[] args) {
        refusals();
        twoThirds();
        punishedForTwo();
        punishedForSurrounding();
        notPunished();
        punishmentLetsOthersCarry();
        allPunished();
        lateSources();
        finals();
        finalByAnotherLink();
        skipped();
        highestFinal();
        finalOfAFork();
        twentyVotes();
        CHECKS.end();
    }

    /** Blocks with the parents that are told; the first is the parent of the block 1. */
    private static ForkBridge tree(int... parents) {
        ForkBridge x = new ForkBridge();
        for (int parent : parents) {
            x.make(0, parent, 0, 1);
        }
        return x;
    }

    private static void votes(ForkBridge x, int source, int target, int... validators) {
        for (int v : validators) {
            CHECKS.yes("vote of " + v + " from " + source + " to " + target, x.vote(0, v, source, target));
        }
    }

    private static void refusals() {
        ForkBridge x = tree(0, 1, 0);
        int[][] none = {{-1, 0, 0, 1}, {2, 0, 0, 1}, {0, -1, 0, 1}, {0, 4, 0, 1}, {0, 0, -1, 1}, {0, 0, 4, 1}, {0, 0, 0, -1}, {0, 0, 0, 4}, {1, 0, 0, 1}};
        for (int[] a : none) {
            CHECKS.throwing("vote " + java.util.Arrays.toString(a), Checks.NO_INDEX, () -> x.vote(a[0], a[1], a[2], a[3]));
        }
        int[][] wrong = {{0, 0}, {1, 1}, {1, 0}, {2, 1}, {1, 3}, {3, 2}};
        for (int[] a : wrong) {
            CHECKS.throwing("vote from " + a[0] + " to " + a[1], Checks.NO_ARGUMENT, () -> x.vote(0, 0, a[0], a[1]));
        }
        x.vote(0, 0, 0, 1);
        x.vote(0, 0, 0, 3);
        CHECKS.throwing("a punished one", Checks.NO_STATE, () -> x.vote(0, 0, 0, 1));
        CHECKS.throwing("a punished one, from 1 to 0", Checks.NO_ARGUMENT, () -> x.vote(0, 0, 1, 0));
        CHECKS.throwing("a punished one, to 4", Checks.NO_INDEX, () -> x.vote(0, 0, 0, 4));
        CHECKS.throwing("stake of 4", Checks.NO_INDEX, () -> x.stake(0, 4));
        CHECKS.throwing("stake of -1", Checks.NO_INDEX, () -> x.stake(0, -1));
        CHECKS.throwing("stake on 2", Checks.NO_INDEX, () -> x.stake(2, 0));
        CHECKS.throwing("isJustified of 4", Checks.NO_INDEX, () -> x.isJustified(0, 4));
        CHECKS.throwing("isJustified of -1", Checks.NO_INDEX, () -> x.isJustified(0, -1));
        CHECKS.throwing("isJustified on 2", Checks.NO_INDEX, () -> x.isJustified(2, 0));
        CHECKS.throwing("lastFinal of 2", Checks.NO_INDEX, () -> x.lastFinal(2));
        CHECKS.throwing("lastFinal of -1", Checks.NO_INDEX, () -> x.lastFinal(-1));
    }

    private static void twoThirds() {
        ForkBridge x = tree(0);
        votes(x, 0, 1, 0, 0, 0, 1);
        CHECKS.no("each counts once: two of four are not enough", x.isJustified(0, 1));
        votes(x, 0, 1, 3);
        CHECKS.yes("three of four are", x.isJustified(0, 1));
        CHECKS.same("block 0 is final as it was", x.lastFinal(0), 0);
        x.make(1, 0, 0, 1);
        CHECKS.no("the other chain is apart", x.isJustified(1, 1));
        CHECKS.yes("votes there are apart", x.vote(1, 0, 0, 1));
    }

    private static void punishedForTwo() {
        ForkBridge x = tree(0, 0, 1, 2);
        votes(x, 0, 1, 0, 1);
        CHECKS.no("another target of the same height", x.vote(0, 0, 0, 2));
        CHECKS.same("stake", x.stake(0, 0), 0);
        CHECKS.same("stake of another", x.stake(0, 1), 100);
        CHECKS.same("stake on the other chain", x.stake(1, 0), 100);
        ForkBridge y = tree(0, 0, 1, 2);
        votes(y, 0, 3, 2);
        CHECKS.no("from another source too", y.vote(0, 2, 2, 4));
        CHECKS.same("stake", y.stake(0, 2), 0);
    }

    private static void punishedForSurrounding() {
        ForkBridge x = tree(0, 1, 2, 3);
        votes(x, 1, 2, 0);
        CHECKS.no("the new one surrounds", x.vote(0, 0, 0, 3));
        votes(x, 0, 3, 1);
        CHECKS.no("the old one surrounds", x.vote(0, 1, 1, 2));
        ForkBridge y = tree(0, 1, 2, 0, 4, 5, 6);
        votes(y, 4, 5, 0);
        CHECKS.no("on another line too, for heights count", y.vote(0, 0, 0, 3));
        votes(y, 1, 2, 3);
        votes(y, 2, 3, 3);
        CHECKS.no("any earlier one", y.vote(0, 3, 0, 7));
        CHECKS.same("stakes", y.stake(0, 0) + y.stake(0, 1) + y.stake(0, 2) + y.stake(0, 3), 200);
    }

    private static void notPunished() {
        ForkBridge x = tree(0, 1, 2, 3);
        votes(x, 0, 1, 0);
        votes(x, 0, 1, 0);
        votes(x, 0, 2, 0);
        votes(x, 1, 2, 0);
        votes(x, 1, 3, 0);
        votes(x, 2, 3, 0);
        votes(x, 2, 4, 0);
        votes(x, 3, 4, 0);
        CHECKS.same("the same source or target surrounds nothing", x.stake(0, 0), 100);
    }

    private static void punishmentLetsOthersCarry() {
        ForkBridge x = tree(0, 0);
        votes(x, 0, 1, 0, 1);
        votes(x, 0, 2, 2);
        CHECKS.no("200 of 400", x.isJustified(0, 1));
        CHECKS.no("the vote does not count", x.vote(0, 2, 0, 1));
        CHECKS.yes("but 200 of 300 do", x.isJustified(0, 1));
        ForkBridge y = tree(0, 0);
        votes(y, 0, 1, 0, 1);
        CHECKS.no("a vote that was given goes too", y.vote(0, 1, 0, 2));
        votes(y, 0, 1, 2);
        CHECKS.yes("200 of 300", y.isJustified(0, 1));
        CHECKS.no("100 of 300", y.isJustified(0, 2));
        CHECKS.no("once more", y.vote(0, 2, 0, 2));
        CHECKS.no("once more", y.vote(0, 0, 0, 2));
        CHECKS.yes("what was justified stays so", y.isJustified(0, 1));
    }

    private static void allPunished() {
        ForkBridge x = tree(0, 0, 1, 2);
        for (int v = 0; v < 4; v++) {
            votes(x, 1, 3, v);
            CHECKS.no("twice", x.vote(0, v, 2, 4));
        }
        for (int block = 1; block < 5; block++) {
            CHECKS.no("no votes justify nothing", x.isJustified(0, block));
        }
        CHECKS.same("final", x.lastFinal(0), 0);
        ForkBridge y = tree(0, 0, 1);
        for (int v = 0; v < 3; v++) {
            votes(y, 0, 1, v);
            if (v < 2) {
                CHECKS.no("twice", y.vote(0, v, 0, 2));
            }
        }
        CHECKS.no("100 of 200", y.isJustified(0, 1));
        CHECKS.no("twice", y.vote(0, 2, 0, 2));
        votes(y, 0, 3, 3);
        CHECKS.yes("100 of 100", y.isJustified(0, 3));
        CHECKS.no("none for this one", y.isJustified(0, 1));
    }

    private static void lateSources() {
        ForkBridge x = tree(0, 1, 2);
        votes(x, 2, 3, 0, 1, 2);
        CHECKS.no("its source is not justified", x.isJustified(0, 3));
        votes(x, 1, 2, 0, 1, 2);
        CHECKS.no("its source is not justified", x.isJustified(0, 2));
        votes(x, 0, 1, 0, 1);
        CHECKS.no("not yet", x.isJustified(0, 1));
        votes(x, 0, 1, 3);
        CHECKS.yes("the first one", x.isJustified(0, 1));
        CHECKS.yes("and all behind it", x.isJustified(0, 2));
        CHECKS.yes("and all behind it", x.isJustified(0, 3));
        CHECKS.same("the highest one with a justified child", x.lastFinal(0), 2);
        ForkBridge y = tree(0, 1, 2, 3, 4, 5, 6, 7);
        for (int source = 7; source > 0; source--) {
            votes(y, source, source + 1, 0, 1, 2);
        }
        votes(y, 0, 1, 0, 1, 2);
        CHECKS.yes("however many", y.isJustified(0, 8));
        CHECKS.same("however many", y.lastFinal(0), 7);
    }

    private static void finals() {
        ForkBridge x = tree(0, 1, 2);
        votes(x, 0, 1, 0, 1, 2);
        CHECKS.same("justified is not final", x.lastFinal(0), 0);
        votes(x, 1, 2, 0, 1);
        CHECKS.same("not yet", x.lastFinal(0), 0);
        votes(x, 1, 2, 2);
        CHECKS.same("with a justified child it is", x.lastFinal(0), 1);
        votes(x, 2, 3, 0, 1, 2);
        CHECKS.same("and so on", x.lastFinal(0), 2);
        CHECKS.same("the other chain", x.lastFinal(1), 0);
    }

    private static void finalByAnotherLink() {
        ForkBridge x = tree(0, 1);
        votes(x, 0, 2, 0, 1, 2);
        CHECKS.yes("over one", x.isJustified(0, 2));
        votes(x, 0, 1, 0, 1, 2);
        CHECKS.same("block 1 has no justified child yet: 2 was from 0", x.lastFinal(0), 0);
        votes(x, 1, 2, 0, 1, 2);
        CHECKS.same("now it was justified from 1 too", x.lastFinal(0), 1);
    }

    private static void skipped() {
        ForkBridge x = tree(0, 1, 2);
        votes(x, 0, 1, 0, 1, 2);
        votes(x, 1, 3, 0, 1, 2);
        CHECKS.yes("justified over one", x.isJustified(0, 3));
        CHECKS.same("a height that is 2 more makes nothing final", x.lastFinal(0), 0);
    }

    private static void highestFinal() {
        ForkBridge x = tree(0, 1, 2, 3, 4);
        votes(x, 4, 5, 0, 1, 2);
        votes(x, 1, 2, 0, 1, 2);
        votes(x, 1, 4, 0, 1, 2);
        votes(x, 0, 1, 0, 1, 2);
        CHECKS.same("4 and 1 have justified children; the highest counts", x.lastFinal(0), 4);
    }

    /** Three of the validators are punished on the way, so that a fork can become justified. */
    private static void finalOfAFork() {
        // The lines 0, 1, 3 and 0, 2, 4.
        ForkBridge x = tree(0, 0, 1, 2, 3);
        votes(x, 0, 1, 0, 1, 2);
        votes(x, 1, 3, 0, 1, 2);
        CHECKS.same("1 is final", x.lastFinal(0), 1);
        for (int v = 0; v < 3; v++) {
            CHECKS.no("twice", x.vote(0, v, 0, 2));
        }
        votes(x, 0, 2, 3);
        votes(x, 2, 4, 3);
        CHECKS.yes("the only stake justifies a fork", x.isJustified(0, 2));
        CHECKS.yes("the only stake justifies a fork", x.isJustified(0, 4));
        CHECKS.same("but what does not come from the last final one is not final", x.lastFinal(0), 1);
        CHECKS.same("the head comes from it", x.head(0), 5);
    }

    private static void twentyVotes() {
        ForkBridge x = tree(0, 1);
        for (int n = 0; n < 20; n++) {
            CHECKS.yes("vote " + n, x.vote(0, 0, 0, 1 + n % 2));
        }
        CHECKS.refused(x, "a 21st", Checks.NO_STATE, () -> x.vote(0, 0, 0, 1));
        CHECKS.refused(x, "a 21st from 1 to 0", Checks.NO_ARGUMENT, () -> x.vote(0, 0, 1, 0));
        CHECKS.same("is not punished", x.stake(0, 0), 100);
        CHECKS.yes("another one has room", x.vote(0, 1, 0, 1));
        CHECKS.yes("the other chain has room", x.make(1, 0, 0, 1) == 1 && x.vote(1, 0, 0, 1));
    }
}
