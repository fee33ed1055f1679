/** Promises 25 to 28: heights that are the same, 1 more or less; stakes that are just enough; what becomes final, and what stays. */
public final class VoteEdgesTest {
    private static final Checks CHECKS = new Checks("VoteEdgesTest");

    public static void main(String[] args) {
        validators();
        targets();
        sameHeight();
        surrounding();
        notSurrounding();
        anyEarlierVote();
        theNewVoteDoesNotCount();
        votesThatCount();
        enoughStakes();
        enoughStakesOfFewer();
        eachOnce();
        oneLinkAlone();
        noVotesNoJustification();
        firstBlock();
        chainsOfJustification();
        afterAPunishment();
        heightOneMore();
        comesFromTheFinal();
        theHighest();
        behindAll();
        staysSo();
        stakes();
        CHECKS.end();
    }

    /** Blocks with the parents that are told; the first is the parent of the block 1. */
    private static ForkBridge tree(int... parents) {
        ForkBridge x = new ForkBridge();
        for (int parent : parents) {
            x.make(0, parent, 0, 1);
        }
        return x;
    }

    private static void votes(ForkBridge x, int source, int target, int... validators) {
        for (int v : validators) {
            CHECKS.yes("vote of " + v + " from " + source + " to " + target, x.vote(0, v, source, target));
        }
    }

    /** A vote that does not count, and punishes. */
    private static void punished(ForkBridge x, int source, int target, int... validators) {
        for (int v : validators) {
            CHECKS.no("vote of " + v + " from " + source + " to " + target, x.vote(0, v, source, target));
            CHECKS.same("stake of " + v, x.stake(0, v), 0);
        }
    }

    private static void validators() {
        CHECKS.sentence("Validators are the people 0 to 3, with a stake of 100 each, for each chain.");
        for (int chain = 0; chain < 2; chain++) {
            for (int v = 0; v < 4; v++) {
                ForkBridge x = tree(0, 0);
                x.make(1, 0, 0, 1);
                x.make(1, 0, 0, 1);
                CHECKS.yes("a vote", x.vote(chain, v, 0, 1));
                CHECKS.no("another one for the same height", x.vote(chain, v, 0, 2));
                for (int other = 0; other < 4; other++) {
                    CHECKS.same("stake there", x.stake(chain, other), other == v ? 0 : 100);
                    CHECKS.same("stake on the other chain", x.stake(1 - chain, other), 100);
                }
                CHECKS.yes("it votes on the other chain", x.vote(1 - chain, v, 0, 1));
                int c = chain;
                CHECKS.throwing("a fifth one", Checks.NO_INDEX, () -> x.vote(c, 4, 0, 1));
            }
        }
    }

    private static void targets() {
        CHECKS.sentence("A vote has a source and a target, which comes from the source, and is not it.");
        // The lines 0, 1, 2, 3 and 0, 1, 4, and 0, 5.
        int[] parents = {-1, 0, 1, 2, 1, 0};
        for (int source = 0; source < 6; source++) {
            for (int target = 0; target < 6; target++) {
                ForkBridge x = tree(0, 1, 2, 1, 0);
                int s = source;
                int t = target;
                boolean comes = false;
                for (int b = parents[target]; b >= 0; b = parents[b]) {
                    comes |= b == source;
                }
                if (comes) {
                    votes(x, source, target, 0);
                } else {
                    CHECKS.throwing("from " + s + " to " + t, Checks.NO_ARGUMENT, () -> x.vote(0, 0, s, t));
                }
            }
        }
    }

    private static void sameHeight() {
        CHECKS.sentence("A validator is punished, its stake becomes 0, and its votes do not count any more, if it votes for a target of the same height as that of an earlier vote, but another one;");
        // The lines 0, 1, 2, 3 and 0, 4, 5, 6.
        int[] heights = {0, 1, 2, 3, 1, 2, 3};
        for (int first = 1; first <= 6; first++) {
            for (int second = 1; second <= 6; second++) {
                ForkBridge x = tree(0, 1, 2, 0, 4, 5);
                votes(x, 0, first, 2);
                boolean twice = first != second && heights[first] == heights[second];
                CHECKS.same(second + " behind " + first, x.vote(0, 2, 0, second) ? 1 : 0, twice ? 0 : 1);
                CHECKS.same("stake", x.stake(0, 2), twice ? 0 : 100);
            }
        }
        ForkBridge x = tree(0, 1, 2);
        votes(x, 0, 3, 1);
        votes(x, 0, 3, 1);
        CHECKS.same("the same target again", x.stake(0, 1), 100);
        ForkBridge y = tree(0, 1, 1);
        votes(y, 0, 2, 1);
        punished(y, 1, 3, 1);
        ForkBridge z = tree(0, 1, 1);
        votes(z, 0, 2, 1);
        votes(z, 1, 2, 1);
        CHECKS.same("the same target from another source", z.stake(0, 1), 100);
    }

    /** All pairs of links in one line of seven blocks: the heights are the numbers. */
    private static void surrounding() {
        CHECKS.sentence("or if one of two of its votes surrounds the other one: its source is lower, and its target higher.");
        for (int s = 0; s < 6; s++) {
            for (int t = s + 1; t < 7; t++) {
                for (int u = 0; u < 6; u++) {
                    for (int v = u + 1; v < 7; v++) {
                        ForkBridge x = tree(0, 1, 2, 3, 4, 5);
                        votes(x, s, t, 3);
                        boolean around = u < s && v > t || s < u && t > v;
                        CHECKS.same(u + " to " + v + " behind " + s + " to " + t, x.vote(0, 3, u, v) ? 1 : 0, around ? 0 : 1);
                        CHECKS.same("stake", x.stake(0, 3), around ? 0 : 100);
                    }
                }
            }
        }
    }

    private static void notSurrounding() {
        CHECKS.sentence("its source is lower, and its target higher.");
        // The lines 0, 1, 2, 3, 4 and 0, 5, 6, 7, 8: what counts are heights, whatever the lines and numbers.
        ForkBridge x = tree(0, 1, 2, 3, 0, 5, 6, 7);
        votes(x, 6, 7, 0);
        punished(x, 1, 4, 0);
        votes(x, 1, 4, 1);
        punished(x, 6, 7, 1);
        votes(x, 6, 7, 2);
        votes(x, 2, 4, 2);
        CHECKS.same("the same height of the source", x.stake(0, 2), 100);
        votes(x, 1, 2, 3);
        votes(x, 6, 7, 3);
        CHECKS.same("one above the other", x.stake(0, 3), 100);
        // A lower number, but not a lower height: the lines 0, 1, 2 and 0, 3, 4, 5, 6, and 2, 7, 8, 9.
        ForkBridge y = tree(0, 1, 0, 3, 4, 5, 2, 7, 8);
        votes(y, 4, 5, 0);
        votes(y, 2, 9, 0);
        CHECKS.same("the source 2 is as high as 4", y.stake(0, 0), 100);
    }

    private static void anyEarlierVote() {
        CHECKS.sentence("if one of two of its votes surrounds the other one");
        for (int clash = 0; clash < 6; clash++) {
            // Only the link from 3 to 4, which is given once, is surrounded by the last one.
            ForkBridge x = tree(0, 1, 2, 3, 4);
            for (int n = 0; n < 6; n++) {
                votes(x, n == clash ? 3 : 0, n == clash ? 4 : 1, 0);
            }
            CHECKS.same("none clashes", x.stake(0, 0), 100);
            punished(x, 2, 5, 0);
        }
        ForkBridge last = tree(0, 1, 2, 3, 4, 5);
        for (int n = 0; n < 18; n++) {
            votes(last, 0, 1 + n % 3, 0);
        }
        votes(last, 3, 5, 0);
        punished(last, 2, 6, 0);
        ForkBridge first = tree(0, 1, 2, 3, 0);
        votes(first, 0, 1, 0);
        for (int n = 0; n < 18; n++) {
            votes(first, 0, 2 + n % 3, 0);
        }
        punished(first, 0, 5, 0);
    }

    private static void theNewVoteDoesNotCount() {
        CHECKS.sentence("(The new vote does not count then, too.)");
        ForkBridge x = tree(0, 0);
        votes(x, 0, 1, 3);
        votes(x, 0, 2, 0, 1);
        punished(x, 0, 2, 3);
        CHECKS.yes("200 of 300, without it", x.isJustified(0, 2));
        ForkBridge y = tree(0, 0);
        votes(y, 0, 1, 3);
        votes(y, 0, 2, 0);
        punished(y, 0, 2, 3);
        CHECKS.no("100 of 300: the new one would make it 200", y.isJustified(0, 2));
        CHECKS.no("nor does the old one count", y.isJustified(0, 1));
        votes(y, 0, 1, 1);
        CHECKS.no("100 of 300: the old one would make it 200", y.isJustified(0, 1));
    }

    private static void votesThatCount() {
        CHECKS.sentence("its stake becomes 0, and its votes do not count any more");
        ForkBridge x = tree(0, 0, 1);
        votes(x, 0, 1, 0, 1);
        punished(x, 0, 2, 1);
        votes(x, 0, 1, 2);
        CHECKS.yes("200 of 300", x.isJustified(0, 1));
        ForkBridge y = tree(0, 0, 1);
        votes(y, 0, 1, 0, 1);
        punished(y, 0, 2, 0, 1);
        votes(y, 0, 1, 2);
        CHECKS.no("100 of 200", y.isJustified(0, 1));
        votes(y, 0, 1, 3);
        CHECKS.yes("200 of 200", y.isJustified(0, 1));
    }

    private static void enoughStakes() {
        CHECKS.sentence("A block is justified from a source, if that is justified, some votes from it to the block count, and the stakes of those who gave them (each once) are, three times, at least twice all stakes.");
        for (int who = 0; who < 16; who++) {
            ForkBridge x = tree(0);
            for (int v = 0; v < 4; v++) {
                if ((who >> v & 1) == 1) {
                    votes(x, 0, 1, v);
                }
            }
            CHECKS.same("votes of " + Integer.toBinaryString(who), x.isJustified(0, 1) ? 1 : 0, Integer.bitCount(who) >= 3 ? 1 : 0);
        }
    }

    /** Some are punished (by votes on another line); of those that are left, some vote. */
    private static void enoughStakesOfFewer() {
        CHECKS.sentence("are, three times, at least twice all stakes.");
        // 2 of 3 is just enough: three times 200 is twice 300.
        int[] needed = {0, 1, 2, 2, 3};
        for (int out = 0; out < 16; out++) {
            for (int who = 0; who < 16; who++) {
                if ((out & who) != 0) {
                    continue;
                }
                ForkBridge x = tree(0, 1, 0, 3, 1);
                for (int v = 0; v < 4; v++) {
                    if ((out >> v & 1) == 1) {
                        votes(x, 1, 2, v);
                        punished(x, 3, 4, v);
                    }
                }
                for (int v = 0; v < 4; v++) {
                    if ((who >> v & 1) == 1) {
                        votes(x, 0, 1, v);
                    }
                }
                int left = 4 - Integer.bitCount(out);
                boolean due = who != 0 && Integer.bitCount(who) >= needed[left];
                CHECKS.same(Integer.bitCount(who) + " of " + left, x.isJustified(0, 1) ? 1 : 0, due ? 1 : 0);
            }
        }
    }

    private static void eachOnce() {
        CHECKS.sentence("and the stakes of those who gave them (each once)");
        ForkBridge x = tree(0);
        for (int n = 0; n < 10; n++) {
            votes(x, 0, 1, 0, 1);
        }
        CHECKS.no("ten votes of two", x.isJustified(0, 1));
        votes(x, 0, 1, 2);
        CHECKS.yes("and one of a third", x.isJustified(0, 1));
    }

    private static void oneLinkAlone() {
        CHECKS.sentence("some votes from it to the block count");
        ForkBridge x = tree(0, 1);
        votes(x, 0, 1, 0, 1, 2);
        votes(x, 0, 2, 0, 1);
        votes(x, 1, 2, 2, 3);
        CHECKS.no("two from one source, and two from another one", x.isJustified(0, 2));
        votes(x, 1, 2, 0);
        CHECKS.yes("three from one", x.isJustified(0, 2));
    }

    private static void noVotesNoJustification() {
        CHECKS.sentence("some votes from it to the block count");
        // All are punished, and none has a stake: three times 0 is twice 0, but no votes count.
        ForkBridge x = tree(0, 1, 0, 3);
        for (int v = 0; v < 3; v++) {
            votes(x, 0, 1, v);
            punished(x, 0, 3, v);
        }
        votes(x, 1, 2, 3);
        punished(x, 3, 4, 3);
        for (int block = 1; block < 5; block++) {
            CHECKS.no("block " + block, x.isJustified(0, block));
        }
        CHECKS.same("final", x.lastFinal(0), 0);
        CHECKS.throwing("a vote", Checks.NO_STATE, () -> x.vote(0, 3, 0, 1));
    }

    private static void firstBlock() {
        CHECKS.sentence("Block 0 is justified and final.");
        ForkBridge x = tree(0);
        CHECKS.yes("justified", x.isJustified(0, 0) && x.isJustified(1, 0));
        CHECKS.same("final", x.lastFinal(0) + x.lastFinal(1), 0);
        CHECKS.no("the next one is not", x.isJustified(0, 1));
        votes(x, 0, 1, 0, 1, 2);
        CHECKS.yes("now it is", x.isJustified(0, 1));
        CHECKS.same("the last final one is the first one", x.lastFinal(0), 0);
    }

    private static void chainsOfJustification() {
        CHECKS.sentence("Whenever a vote was given, whether it counts or not, this is looked at as long as something becomes justified.");
        ForkBridge x = twenty();
        for (int block = 22; block >= 2; block--) {
            if (block % 4 == 0) {
                votes(x, block - 4, block, 0, 1);
            }
        }
        for (int block = 20; block >= 4; block -= 4) {
            CHECKS.no("two of four", x.isJustified(0, block));
        }
        for (int block = 20; block >= 8; block -= 4) {
            votes(x, block - 4, block, 2);
            CHECKS.no("its source is not justified", x.isJustified(0, block));
        }
        votes(x, 0, 4, 3);
        for (int block = 4; block <= 20; block += 4) {
            CHECKS.yes("all at once, " + block, x.isJustified(0, block));
        }
        CHECKS.no("but not between them", x.isJustified(0, 2));
        CHECKS.same("none is final", x.lastFinal(0), 0);
    }

    private static ForkBridge twenty() {
        ForkBridge x = new ForkBridge();
        for (int parent = 0; parent < 22; parent++) {
            x.make(0, parent, 0, 1);
        }
        return x;
    }

    private static void afterAPunishment() {
        CHECKS.sentence("whether it counts or not");
        // 200 of 400 are not enough; a vote that does not count makes it 200 of 300, and all behind it is looked at.
        ForkBridge x = tree(0, 1, 2, 0);
        votes(x, 1, 2, 0, 1);
        votes(x, 2, 3, 0, 1);
        votes(x, 0, 1, 0, 1);
        votes(x, 0, 4, 3);
        CHECKS.no("200 of 400", x.isJustified(0, 1));
        punished(x, 0, 1, 3);
        for (int block = 1; block <= 3; block++) {
            CHECKS.yes("200 of 300, " + block, x.isJustified(0, block));
        }
        CHECKS.same("final", x.lastFinal(0), 2);
        CHECKS.no("not the other one", x.isJustified(0, 4));
    }

    private static void heightOneMore() {
        CHECKS.sentence("A justified block is final if a block whose height is 1 more was justified from it, and it comes from the last final block;");
        for (int child = 2; child <= 5; child++) {
            ForkBridge x = tree(0, 1, 2, 3, 4);
            votes(x, 0, 1, 0, 1, 2);
            CHECKS.same("justified is not final", x.lastFinal(0), 0);
            votes(x, 1, child, 0, 1);
            CHECKS.same("not by two of four", x.lastFinal(0), 0);
            votes(x, 1, child, 3);
            CHECKS.yes("justified", x.isJustified(0, child));
            CHECKS.same("final by one whose height is " + (child - 1) + " more", x.lastFinal(0), child == 2 ? 1 : 0);
        }
        ForkBridge y = tree(0, 1);
        votes(y, 1, 2, 0, 1, 2);
        CHECKS.same("not without being justified itself", y.lastFinal(0), 0);
        ForkBridge z = tree(0, 1, 2, 3);
        votes(z, 0, 2, 0, 1, 2);
        votes(z, 2, 3, 0, 1, 2);
        CHECKS.same("justified from far, final by the next one", z.lastFinal(0), 2);
        CHECKS.no("what is between is not justified", z.isJustified(0, 1));
    }

    private static void comesFromTheFinal() {
        CHECKS.sentence("and it comes from the last final block;");
        // The lines 0, 1, 2, 3 and 0, 4, 5, 6, 7: on the second one the only stake that is left justifies all.
        ForkBridge x = tree(0, 1, 2, 0, 4, 5, 6);
        votes(x, 0, 1, 0, 1, 2);
        votes(x, 1, 2, 0, 1, 2);
        CHECKS.same("1 is final", x.lastFinal(0), 1);
        punished(x, 0, 4, 0, 1, 2);
        votes(x, 0, 4, 3);
        votes(x, 4, 5, 3);
        votes(x, 5, 6, 3);
        votes(x, 6, 7, 3);
        CHECKS.yes("justified on the other line", x.isJustified(0, 4) && x.isJustified(0, 5) && x.isJustified(0, 6) && x.isJustified(0, 7));
        CHECKS.same("higher, but not from the last final one", x.lastFinal(0), 1);
        CHECKS.same("the head comes from it", x.head(0), 3);
    }

    private static void theHighest() {
        CHECKS.sentence("the highest such one, of several the lowest number, is the last final block then (looked at behind all that becomes justified).");
        // One vote justifies all at once: 1, 2, 4 and 5 have justified children; 3 was left out.
        ForkBridge x = tree(0, 1, 2, 3, 4, 5);
        votes(x, 1, 2, 0, 1, 2);
        votes(x, 2, 4, 0, 1, 2);
        votes(x, 4, 5, 0, 1, 2);
        votes(x, 0, 1, 0, 1);
        CHECKS.same("none yet", x.lastFinal(0), 0);
        votes(x, 0, 1, 2);
        CHECKS.same("the highest", x.lastFinal(0), 4);
        CHECKS.no("3 is not justified", x.isJustified(0, 3));
        votes(x, 2, 3, 0, 1, 2);
        CHECKS.same("a lower one that becomes final later is not the last", x.lastFinal(0), 4);
    }

    private static void behindAll() {
        CHECKS.sentence("(looked at behind all that becomes justified)");
        // The line 0, 1, 2 and then the forks 3, 4, 5 and 6, 7, 8, both on 2: the second is justified by one vote.
        ForkBridge x = tree(0, 1, 2, 3, 4, 2, 6, 7);
        votes(x, 2, 6, 0, 1, 2);
        votes(x, 6, 7, 0, 1, 2);
        votes(x, 7, 8, 0, 1, 2);
        votes(x, 1, 2, 0, 1, 2);
        votes(x, 0, 1, 0, 1);
        CHECKS.same("none", x.lastFinal(0), 0);
        votes(x, 0, 1, 3);
        CHECKS.same("the highest of those that became justified", x.lastFinal(0), 7);
        CHECKS.same("the head", x.head(0), 8);
    }

    private static void staysSo() {
        CHECKS.sentence("What was justified or final stays so.");
        ForkBridge x = tree(0, 1, 2, 0);
        votes(x, 0, 1, 0, 1, 2);
        votes(x, 1, 2, 0, 1, 2);
        punished(x, 0, 4, 0, 1, 2);
        CHECKS.yes("justified", x.isJustified(0, 1) && x.isJustified(0, 2));
        CHECKS.same("final", x.lastFinal(0), 1);
        votes(x, 2, 3, 3);
        CHECKS.yes("from what stays justified", x.isJustified(0, 3));
        CHECKS.same("2 is final", x.lastFinal(0), 2);
        ForkBridge y = tree(0, 1, 2, 0, 4);
        votes(y, 1, 2, 0, 1, 2);
        punished(y, 4, 5, 0);
        votes(y, 0, 1, 1, 2);
        CHECKS.yes("200 of 300 for both", y.isJustified(0, 1) && y.isJustified(0, 2));
        CHECKS.same("1 is final", y.lastFinal(0), 1);
    }

    private static void stakes() {
        CHECKS.sentence("Returns 100, or 0 if it was punished.");
        ForkBridge x = tree(0, 0);
        for (int v = 3; v >= 0; v--) {
            CHECKS.same("stake of " + v, x.stake(0, v), 100);
            votes(x, 0, 1, v);
            if (v > 0) {
                punished(x, 0, 2, v);
            }
        }
        CHECKS.same("the last one", x.stake(0, 0), 100);
    }
}
