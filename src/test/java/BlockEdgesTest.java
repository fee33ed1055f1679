/** Promises 7 to 14: numbers, heights, bases that are rounded, room for gas, the order of transactions, the head, events and blooms. */
public final class BlockEdgesTest {
    private static final Checks CHECKS = new Checks("BlockEdgesTest");
    private static final int PUSH = ForkBridge.PUSH;
    private static final int LOG = ForkBridge.LOG;

    public static void main(String[] args) {
        numbers();
        weights();
        idleBases();
        bases();
        fallingBases();
        gasRoom();
        roomForClaims();
        roomCountsWhatWasUsed();
        order();
        ties();
        asItIsByThen();
        notTwice();
        heads();
        headOfTheFinal();
        events();
        blooms();
        finding();
        results();
        CHECKS.end();
    }

    private static void numbers() {
        CHECKS.sentence("Blocks of a chain are numbered from 0, at most 24;");
        ForkBridge x = new ForkBridge();
        for (int number = 1; number < 24; number++) {
            CHECKS.same("number", x.make(0, (number - 1) / 2, number % 6, 1 + number % 9), number);
            CHECKS.same("its parent's base and gas gave its base", x.base(0, number), number <= 2 ? 9 : number <= 6 ? 8 : 7);
        }
        for (int parent = 0; parent < 24; parent++) {
            int p = parent;
            CHECKS.throwing("a 25th on " + parent, Checks.NO_STATE, () -> x.make(0, p, 0, 1));
        }
        CHECKS.same("the other chain has room", x.make(1, 0, 0, 1), 1);
        CHECKS.unchanged("a 25th", BlockEdgesTest::twentyFour, y -> CHECKS.throwing("a 25th", Checks.NO_STATE, () -> y.make(0, 23, 0, 1)));
        CHECKS.same("a long line: its head", twentyFour().head(0), 23);
    }

    private static ForkBridge twentyFour() {
        ForkBridge x = new ForkBridge();
        for (int parent = 0; parent < 23; parent++) {
            x.make(0, parent, 5, 1);
        }
        return x;
    }

    private static void weights() {
        CHECKS.sentence("A block has a parent, a height, 1 more than that, a producer, who is a person, a weight that is told, and a total weight, which is that and the total of the parent.");
        for (int weight = 1; weight <= 8; weight++) {
            ForkBridge x = new ForkBridge();
            x.make(0, 0, 0, weight);
            x.make(0, 0, 0, weight + 1);
            CHECKS.same("the heavier one of " + weight, x.head(0), 2);
            x.make(0, 1, 0, 1);
            CHECKS.same("the same total as before, by another line", x.head(0), 2);
            x.make(0, 3, 0, 1);
            CHECKS.same("1 more in that line", x.head(0), 4);
        }
        ForkBridge nine = new ForkBridge();
        nine.make(0, 0, 0, 9);
        for (int n = 1; n <= 9; n++) {
            nine.make(0, n == 1 ? 0 : n, 0, 1);
            CHECKS.same("nine of 1 are as one of 9", nine.head(0), 1);
        }
        nine.make(0, 10, 0, 1);
        CHECKS.same("ten are more", nine.head(0), 11);
    }

    private static void idleBases() {
        CHECKS.sentence("0 is the first one, with the first state, the height 0, the base 10 and the weight 0.");
        CHECKS.sentence("Its base comes from that of the parent, b, and the gas u that its transactions used: b + b * (u - 300) / 2400, rounded toward 0, at least 1.");
        ForkBridge x = twentyFour();
        int[] due = {10, 9, 8, 7};
        for (int block = 0; block < 24; block++) {
            CHECKS.same("base of " + block, x.base(0, block), block < 4 ? due[block] : 7);
            CHECKS.same("used by " + block, x.used(0, block), 0);
        }
    }

    /** The base of the block 2, whose parent has the base 9 and used so much gas. */
    private static int baseBehind(int gas) {
        ForkBridge x = new ForkBridge();
        x.step(0, ForkBridge.JUMP, 0);
        x.submit(0, 0, 0, 16, 0, 0, 20, 20, 5);
        if (gas >= 40) {
            x.submit(0, 1, 0, 6, 0, 0, gas - 20, 16, 0);
        }
        x.make(0, 0, 5, 1);
        CHECKS.same("used", x.used(0, 1), gas);
        x.make(0, 1, 5, 1);
        return x.base(0, 2);
    }

    private static void bases() {
        CHECKS.sentence("b + b * (u - 300) / 2400, rounded toward 0");
        for (int gas = 40; gas <= 600; gas++) {
            // 9 times 267 is 2403, 9 times 266 is 2394: only from 267 on the quotient is not 0.
            int due = gas <= 33 ? 8 : gas >= 567 ? 10 : 9;
            CHECKS.same("behind 9 and " + gas + " gas", baseBehind(gas), due);
        }
        CHECKS.same("behind 9 and 20 gas", baseBehind(20), 8);
    }

    private static void fallingBases() {
        // The bases rise with full blocks to 10 and 11; then just 240 gas more than 300, and one less, decide.
        int[][] due = {{539, 10}, {540, 11}, {300, 10}, {301, 10}, {299, 10}, {61, 10}, {60, 9}, {59, 9}, {600, 11}};
        for (int[] d : due) {
            ForkBridge x = new ForkBridge();
            x.step(0, ForkBridge.JUMP, 0);
            x.submit(0, 0, 0, 16, 0, 0, 20, 20, 5);
            x.submit(0, 1, 0, 6, 0, 0, 580, 16, 0);
            x.make(0, 0, 5, 1);
            x.submit(0, 2, 0, 6, 0, 0, d[0], 16, 0);
            x.make(0, 1, 5, 1);
            x.make(0, 2, 5, 1);
            CHECKS.same("base of the block 2", x.base(0, 2), 10);
            CHECKS.same("used", x.used(0, 2), d[0]);
            CHECKS.same("behind 10 and " + d[0] + " gas", x.base(0, 3), d[1]);
        }
        ForkBridge y = new ForkBridge();
        y.step(0, ForkBridge.JUMP, 0);
        y.submit(0, 0, 0, 16, 0, 0, 20, 20, 5);
        y.make(0, 0, 5, 1);
        y.submit(0, 1, 0, 6, 0, 0, 600, 16, 0);
        y.make(0, 1, 5, 1);
        y.submit(0, 2, 0, 6, 0, 0, 599, 16, 0);
        y.make(0, 1, 5, 1);
        y.make(0, 2, 5, 1);
        CHECKS.same("behind 8 and 600 gas: 8 times 300 is 2400", y.base(0, 2) * 100 + y.base(0, 4), 809);
        ForkBridge z = new ForkBridge();
        z.step(0, ForkBridge.JUMP, 0);
        z.submit(0, 0, 0, 16, 0, 0, 20, 20, 5);
        z.make(0, 0, 5, 1);
        z.submit(0, 1, 0, 6, 0, 0, 599, 16, 0);
        z.make(0, 1, 5, 1);
        z.make(0, 2, 5, 1);
        CHECKS.same("behind 8 and 599 gas", z.base(0, 2) * 100 + z.base(0, 3), 808);
    }

    /** The loop at 6 uses up what it is given: person 1 leaves so much of 600 for one of person 2 with the gas that is told. */
    private static int countedWith(int left, int gas) {
        ForkBridge x = new ForkBridge();
        x.step(0, ForkBridge.JUMP, 0);
        x.submit(0, 0, 0, 16, 0, 0, 20, 20, 9);
        x.make(0, 0, 5, 1);
        x.submit(0, 1, 0, 6, 0, 0, 600 - left, 16, 9);
        x.submit(0, 2, 0, 7, 0, 0, gas, 16, 1);
        x.make(0, 1, 5, 1);
        return Look.countTransactions(x, 0, 2);
    }

    private static void gasRoom() {
        CHECKS.sentence("and have no more gas than 600 less the gas that its transactions used so far:");
        for (int left = 20; left <= 580; left += 56) {
            CHECKS.same("just the gas that is left, " + left, countedWith(left, left), 2);
            CHECKS.same("one more than is left, " + left, countedWith(left, left + 1), 1);
        }
        CHECKS.same("19 left, for 20", countedWith(19, 20), 1);
        CHECKS.same("0 left", countedWith(0, 20), 1);
        ForkBridge x = new ForkBridge();
        for (int n = 0; n < 10; n++) {
            x.submit(0, n % 6, n / 6, 7, 0, 0, n == 9 ? 421 : 420, 10, n == 9 ? 0 : 1);
        }
        x.make(0, 0, 5, 1);
        CHECKS.same("the gas that was used counts, not what was allowed", Look.countTransactions(x, 0, 1), 9);
        CHECKS.same("180", x.used(0, 1), 180);
        ForkBridge y = new ForkBridge();
        y.submit(0, 0, 0, 7, 0, 0, 600, 12, 1);
        y.submit(0, 1, 0, 7, 0, 0, 600, 12, 2);
        y.make(0, 0, 5, 1);
        CHECKS.same("600 for the first one", y.transactionAt(0, 1, 0), 2000011);
        CHECKS.same("and for it alone", y.used(0, 1), 20);
    }

    private static void roomForClaims() {
        CHECKS.sentence("Submits a claim, with 60 gas.");
        for (int left = 59; left <= 61; left++) {
            ForkBridge x = new ForkBridge();
            x.step(0, ForkBridge.JUMP, 0);
            x.submit(1, 4, 0, 15, 500, 2, 20, 20, 0);
            x.make(1, 0, 5, 1);
            x.make(1, 1, 5, 1);
            for (int v = 0; v < 3; v++) {
                x.vote(1, v, 0, 1);
                x.vote(1, v, 1, 2);
            }
            x.submit(0, 0, 0, 16, 0, 0, 20, 20, 9);
            x.make(0, 0, 5, 1);
            x.submit(0, 1, 0, 6, 0, 0, 600 - left, 16, 9);
            x.claim(0, 2, 0, 0, 16, 1);
            x.make(0, 1, 5, 1);
            CHECKS.same("a claim with " + left + " gas left", Look.countTransactions(x, 0, 2), left >= 60 ? 2 : 1);
        }
    }

    /** What is given back makes room. */
    private static void roomCountsWhatWasUsed() {
        CHECKS.sentence("the gas that its transactions used so far");
        for (int gas = 474; gas <= 476; gas++) {
            Lab lab = new Lab().program(0, PUSH, 5, ForkBridge.WRITE, 0, PUSH, 0, ForkBridge.WRITE, 0);
            lab.x.submit(0, 0, 0, 16, 0, 0, 20, 20, 9);
            lab.x.make(0, 0, 5, 1);
            lab.x.submit(0, 1, 0, 6, 0, 0, 300, 20, 9);
            lab.x.submit(0, 2, 0, 7, 0, 0, gas, 10, 1);
            lab.x.make(0, 1, 5, 1);
            CHECKS.same("125 of 156 are used", lab.x.transactionAt(0, 2, 0), 12500011);
            CHECKS.same("room for 475", Look.countTransactions(lab.x, 0, 2), gas <= 475 ? 2 : 1);
        }
    }

    /** The numbers of the transactions of the block 1, as digits. */
    private static long orderOf(int[]... submitted) {
        ForkBridge x = new ForkBridge();
        for (int[] s : submitted) {
            x.submit(0, s[0], s[1], 6, 0, 0, 20, s[2], s[3]);
        }
        x.make(0, 0, 5, 1);
        int count = Look.countTransactions(x, 0, 1);
        long digits = 1;
        for (int place = 0; place < count; place++) {
            digits = 10 * digits + x.transactionAt(0, 1, place) / 10 % 1000;
        }
        return digits;
    }

    private static void order() {
        CHECKS.sentence("the one with the greatest price less base");
        CHECKS.same("by tip", orderOf(new int[] {0, 0, 50, 1}, new int[] {1, 0, 50, 3}, new int[] {2, 0, 50, 2}), 1120);
        CHECKS.same("by most, where that is less", orderOf(new int[] {0, 0, 11, 9}, new int[] {1, 0, 13, 9}, new int[] {2, 0, 12, 9}), 1120);
        CHECKS.same("1 more than the other", orderOf(new int[] {0, 0, 50, 4}, new int[] {1, 0, 14, 14}, new int[] {2, 0, 50, 6}), 1210);
        CHECKS.same("the least and the greatest", orderOf(new int[] {0, 0, 9, 0}, new int[] {1, 0, 100, 100}), 110);
        CHECKS.same("the most of one that has a lesser tip counts nothing", orderOf(new int[] {0, 0, 100, 0}, new int[] {1, 0, 10, 1}), 110);
    }

    private static void ties() {
        CHECKS.sentence("of several the one with the lowest number, is run.");
        CHECKS.same("the same tip", orderOf(new int[] {3, 0, 20, 2}, new int[] {2, 0, 30, 2}, new int[] {1, 0, 40, 2}, new int[] {0, 0, 50, 2}), 10123);
        CHECKS.same("the same price, once by most and once by tip", orderOf(new int[] {0, 0, 12, 9}, new int[] {1, 0, 50, 3}, new int[] {2, 0, 12, 3}), 1012);
        CHECKS.same("no tip at all", orderOf(new int[] {0, 0, 9, 0}, new int[] {1, 0, 100, 0}, new int[] {2, 0, 9, 9}), 1012);
    }

    private static void asItIsByThen() {
        CHECKS.sentence("are fit for the state as it is by then and its base");
        CHECKS.same("nonces in turn, whatever the tips", orderOf(new int[] {0, 2, 50, 9}, new int[] {0, 1, 50, 5}, new int[] {0, 0, 50, 0}, new int[] {1, 0, 50, 2}), 13210);
        CHECKS.same("a gap", orderOf(new int[] {0, 2, 50, 9}, new int[] {0, 0, 50, 0}), 11);
        ForkBridge x = new ForkBridge();
        x.submit(0, 0, 0, 1, 5000, 0, 20, 20, 9);
        x.submit(0, 0, 1, 1, 5000, 0, 20, 20, 9);
        x.submit(0, 1, 0, 0, 8000, 0, 20, 20, 1);
        x.make(0, 0, 5, 1);
        CHECKS.same("coins by then", x.transactionAt(0, 1, 1) / 10 % 10 * 10 + x.transactionAt(0, 1, 2) / 10 % 10, 21);
    }

    private static void notTwice() {
        CHECKS.sentence("are not in a block that it comes from or in itself");
        ForkBridge x = new ForkBridge();
        x.submit(0, 0, 0, 6, 1, 0, 20, 20, 0);
        for (int block = 1; block <= 4; block++) {
            x.make(0, block - 1, 5, 1);
            CHECKS.same("used by " + block, x.used(0, block), block == 1 ? 20 : 0);
        }
        x.make(0, 0, 5, 1);
        x.make(0, 5, 5, 1);
        CHECKS.same("once in each line", x.used(0, 5) * 100 + x.used(0, 6), 2000);
        CHECKS.sentence("Then the state is that of the block.");
        CHECKS.same("its coins", x.coins(0, 4, 6) * 10 + x.coins(0, 6, 6), 11);
        CHECKS.same("the first block's state stays", x.coins(0, 0, 6), 0);
    }

    private static void heads() {
        CHECKS.sentence("The head is, of the last final block and all that come from it, the one with the greatest total weight, of several the lowest one.");
        ForkBridge x = new ForkBridge();
        CHECKS.same("the first block alone", x.head(0), 0);
        x.make(0, 0, 0, 1);
        CHECKS.same("the only one above it", x.head(0), 1);
        x.make(0, 0, 0, 1);
        CHECKS.same("of two the lowest", x.head(0), 1);
        x.make(0, 0, 0, 2);
        CHECKS.same("1 more", x.head(0), 3);
        x.make(0, 2, 0, 1);
        CHECKS.same("of two the lowest, whatever its height", x.head(0), 3);
        x.make(0, 1, 0, 2);
        CHECKS.same("3 in all", x.head(0), 5);
        CHECKS.same("the other chain", x.head(1), 0);
    }

    private static void headOfTheFinal() {
        CHECKS.sentence("of the last final block and all that come from it");
        ForkBridge x = new ForkBridge();
        x.make(0, 0, 0, 1);
        x.make(0, 1, 0, 1);
        x.make(0, 0, 0, 9);
        x.make(0, 3, 0, 9);
        CHECKS.same("the heavy line", x.head(0), 4);
        for (int v = 0; v < 3; v++) {
            x.vote(0, v, 0, 1);
            CHECKS.same("not yet final", x.head(0), 4);
        }
        for (int v = 0; v < 3; v++) {
            x.vote(0, v, 1, 2);
        }
        CHECKS.same("1 is final", x.lastFinal(0), 1);
        CHECKS.same("the heaviest that comes from it", x.head(0), 2);
        x.make(0, 4, 0, 9);
        CHECKS.same("not one of another line", x.head(0), 2);
        x.make(0, 1, 0, 1);
        CHECKS.same("of two the lowest", x.head(0), 2);
        x.make(0, 1, 0, 2);
        CHECKS.same("another one that comes from it", x.head(0), 7);
    }

    private static void events() {
        CHECKS.sentence("Returns an event of a block, in the order in which they were made, those that were undone left out.");
        Lab lab = new Lab().program(0, PUSH, 0, LOG, 0, PUSH, 15, LOG, 0, ForkBridge.INPUT, 0, LOG, 0, ForkBridge.INPUT, 0, ForkBridge.JUMP_IF_ZERO, 9, ForkBridge.STOP, 0, ForkBridge.FAIL, 0);
        lab.x.submit(0, 0, 0, 16, 0, 0, 20, 20, 9);
        lab.x.submit(0, 1, 0, 6, 0, 0, 120, 20, 8);
        lab.x.submit(0, 2, 0, 6, 0, 7, 120, 20, 7);
        lab.x.submit(0, 3, 0, 6, 0, 0, 120, 20, 6);
        lab.x.submit(0, 4, 0, 6, 0, 16, 120, 20, 5);
        lab.x.make(0, 0, 5, 1);
        int[] due = {6, 1506, 706, 6, 1506, 6};
        CHECKS.same("three of two calls; two calls failed", Look.countEvents(lab.x, 0, 1), due.length);
        for (int place = 0; place < due.length; place++) {
            CHECKS.same("event " + place, lab.x.eventAt(0, 1, place), due[place]);
        }
        Lab many = new Lab().program(0, ForkBridge.CALLER, 0, LOG, 0, ForkBridge.JUMP, 0);
        many.call(0, 0, 0, 580);
        CHECKS.same("a loop uses up its gas, and leaves no event", many.events(), 0);
        Lab nineteen = new Lab();
        for (int n = 0; n < 4; n++) {
            Lab.program(nineteen.x, 0, PUSH, n, LOG, 0, ForkBridge.CALLER, 0, LOG, 0);
        }
        nineteen.x.submit(0, 0, 0, 16, 0, 0, 20, 20, 9);
        nineteen.x.submit(0, 1, 0, 6, 0, 0, 200, 20, 8);
        nineteen.x.submit(0, 2, 0, 6, 0, 0, 200, 20, 7);
        nineteen.x.submit(0, 3, 0, 6, 0, 0, 199, 20, 6);
        nineteen.x.make(0, 0, 5, 1);
        CHECKS.same("eight of each", Look.countEvents(nineteen.x, 0, 1), 16);
        CHECKS.same("the last one", nineteen.x.eventAt(0, 1, 15), 206);
        mostEvents();
    }

    /** 26 events in one block: a loop over seven of 22 gas, three times, whose END gives 60 gas back, and five of another contract. */
    private static void mostEvents() {
        ForkBridge x = new ForkBridge();
        Lab.program(x, 0, PUSH, 1, PUSH, 0, PUSH, 0);
        for (int n = 0; n < 7; n++) {
            Lab.program(x, 0, ForkBridge.CALLER, 0, LOG, 0);
        }
        Lab.program(x, 0, ForkBridge.JUMP_IF_ZERO, 3, ForkBridge.CALLER, 0, ForkBridge.END, 0);
        for (int n = 0; n < 5; n++) {
            Lab.program(x, 1, ForkBridge.CALLER, 0, LOG, 0);
        }
        x.submit(0, 5, 0, 16, 0, 0, 20, 20, 0);
        x.submit(0, 4, 0, 17, 0, 0, 20, 20, 0);
        x.make(0, 0, 0, 1);
        x.submit(0, 1, 0, 13, 0, 0, 528, 16, 2);
        x.submit(0, 2, 0, 8, 0, 0, 130, 16, 1);
        x.make(0, 1, 0, 1);
        CHECKS.same("the loop", x.transactionAt(0, 2, 0), 46800021);
        CHECKS.same("the other one", x.transactionAt(0, 2, 1), 13000031);
        CHECKS.same("26 events", Look.countEvents(x, 0, 2), 26);
        for (int place = 0; place < 26; place++) {
            CHECKS.same("event " + place, x.eventAt(0, 2, place), place < 21 ? 113 : 208);
        }
        CHECKS.same("found", x.find(0, 1) * 1000 + x.find(0, 2), 121105);
    }

    private static void blooms() {
        CHECKS.sentence("The bloom of a block is a set of bits: for each event with the topic t the bits t modulo 8 and 8 + (5 t + 3) modulo 8.");
        int[] second = {11, 8, 13, 10, 15, 12, 9, 14};
        for (int topic = 0; topic < 16; topic++) {
            Lab lab = new Lab().program(0, ForkBridge.INPUT, 0, LOG, 0).call(0, 0, topic, 100);
            int bits = 1 << topic % 8 | 1 << second[topic % 8];
            CHECKS.same("bloom of " + topic, lab.x.bloom(0, 1), bits);
            CHECKS.same("the parent's", lab.x.bloom(0, 0), 0);
            for (int other = 0; other < 16; other++) {
                CHECKS.same("found by " + other, lab.x.find(0, other), other == topic ? 101 : other % 8 == topic % 8 ? 100 : 0);
            }
            Lab failed = new Lab().program(0, ForkBridge.INPUT, 0, LOG, 0, ForkBridge.FAIL, 0).call(0, 0, topic, 100);
            CHECKS.same("none of what was undone", failed.x.bloom(0, 1) + failed.x.find(0, topic), 0);
        }
        Lab all = new Lab();
        for (int topic = 0; topic < 8; topic++) {
            Lab.program(all.x, 0, PUSH, topic, LOG, 0);
        }
        CHECKS.same("all bits", all.call(0, 0, 0, 300).x.bloom(0, 1), 65535);
    }

    private static void finding() {
        CHECKS.sentence("Looks for events with a topic in the head and all blocks that it comes from.");
        ForkBridge x = new ForkBridge();
        Lab.program(x, 0, ForkBridge.INPUT, 0, LOG, 0);
        x.submit(0, 0, 0, 16, 0, 0, 20, 20, 9);
        x.make(0, 0, 5, 1);
        CHECKS.same("none", x.find(0, 4), 0);
        for (int n = 0; n < 5; n++) {
            x.submit(0, 1, n, 6, 0, n % 2 == 0 ? 4 : 12, 60, 20, 0);
            x.make(0, 1 + n, 5, 1);
            CHECKS.same("topic 4", x.find(0, 4), 100 * (n + 1) + n / 2 + 1);
            CHECKS.same("topic 12", x.find(0, 12), 100 * (n + 1) + (n + 1) / 2);
        }
        x.make(0, 3, 5, 9);
        CHECKS.same("of the new head: three in one block, two ahead of it", x.find(0, 4), 303);
        CHECKS.same("of the new head", x.find(0, 12), 302);
        CHECKS.same("the other chain", x.find(1, 4), 0);
    }

    private static void results() {
        CHECKS.sentence("Returns 100000 times the gas that it used, 10 times its number, and 1 if it ended well, added.");
        Lab full = new Lab().program(0, ForkBridge.JUMP, 0);
        full.x.submit(0, 0, 0, 16, 0, 0, 20, 20, 9);
        full.x.make(0, 0, 5, 1);
        full.x.submit(0, 1, 0, 6, 0, 0, 600, 16, 9);
        full.x.make(0, 1, 5, 1);
        CHECKS.same("the greatest gas", full.x.transactionAt(0, 2, 0), 60000010);
        CHECKS.same("the least gas", full.x.transactionAt(0, 1, 0), 2000001);
        CHECKS.same("used", full.x.used(0, 2), 600);
    }
}
