/**
 * Two chains of blocks and a bridge between them, as DOC.md promises.
 *
 * All rows are made in the constructor and used again, for a run's calls share one small room.
 */
public final class ForkBridge {
    public static final int NONE = -1;
    public static final int PUSH = 0, ADD = 1, SUB = 2, MUL = 3, IS_LESS = 4, IS_SAME = 5, DOUBLE = 6, SWAP = 7, DROP = 8, READ = 9, WRITE = 10, JUMP = 11, JUMP_IF_ZERO = 12, CALLER = 13, VALUE = 14, INPUT = 15, COINS = 16, PUT = 17, GET = 18, CALL = 19, LOG = 20, MAKE = 21, END = 22, FAIL = 23, STOP = 24;

    private static final int CHAINS = 2;
    private static final int PEOPLE = 6;
    private static final int ACCOUNTS = 16;
    private static final int BRIDGE = 15;
    private static final int FIRST_CONTRACT = 6;
    private static final int CONTRACTS = 9;
    private static final int SLOTS = 4;
    private static final int PERSON_COINS = 10000;
    private static final int BRIDGE_COINS = 20000;

    private static final int PROGRAMS = 8;
    private static final int STEPS = 20;
    private static final int NUMBERS = 1000000;
    private static final int HEAP = 16;
    private static final int CELLS = 16;
    private static final int DEEPEST = 4;
    private static final int TOPICS = 16;
    /** Far above what any gas pays for: each step that goes on costs at least 2. */
    private static final int MOST_STEPS = 1000000;

    private static final int TRANSACTIONS = 40;
    private static final int POOL_ROOM = 10;
    private static final int LAST_NONCE = 9;
    private static final int START_GAS = 20;
    private static final int CLAIM_GAS = 60;
    private static final int MOST_PRICE = 100;

    private static final int BLOCKS = 24;
    private static final int BLOCK_GAS = 600;
    private static final int FIRST_BASE = 10;
    /** What is given back lets a block run up to 750 gas in truth, which pays for 34 events with their topics. */
    private static final int EVENTS = 40;
    private static final int LATEST_UPGRADE = 1000;

    private static final int VALIDATORS = 4;
    private static final int STAKE = 100;
    private static final int VOTES = 20;
    /** Each look but the last justifies one of at most 80 votes. */
    private static final int MOST_LOOKS = 100;

    private static final int MIXES = 1000003;
    private static final int ROUNDS = 4;

    private static final int WRITE_GAS = 30;
    private static final int FRESH_WRITE_GAS = 100;
    private static final int UPGRADED_WRITE_GAS = 150;
    private static final int CLEARED_BACK = 40;
    private static final int ENDED_BACK = 60;

    /** These four are by operation, from PUSH to STOP. */
    private static final int[] LAST_ARGUMENT = {9999, 0, 0, 0, 0, 0, 0, 0, 0, 3, 3, 20, 20, 0, 0, 0, 0, 15, 15, 0, 0, 7, 0, 0, 0};
    private static final int[] STEP_GAS = {3, 3, 3, 5, 3, 3, 3, 3, 2, 20, 30, 5, 5, 2, 2, 2, 10, 3, 3, 40, 20, 80, 20, 0, 0};
    private static final int[] TAKEN = {0, 2, 2, 2, 2, 2, 1, 2, 1, 0, 1, 0, 1, 0, 0, 0, 1, 1, 0, 3, 1, 1, 1, 0, 0};
    private static final int[] PUSHED = {1, 1, 1, 1, 1, 1, 2, 2, 0, 1, 0, 0, 0, 1, 1, 1, 1, 0, 1, 1, 0, 1, 0, 0, 0};

    private final Programs programs;
    private final Machine machine;
    private final Chain[] chains;

    public ForkBridge() {
        Programs written = new Programs();
        programs = written;
        machine = new Machine(written);
        chains = new Chain[CHAINS];
        for (int c = 0; c < CHAINS; c++) {
            chains[c] = new Chain();
        }
    }

    // ---- programs, rules

    public int step(int program, int operation, int argument) throws IndexOutOfBoundsException, IllegalArgumentException, IllegalStateException {
        demandIndex(program, PROGRAMS);
        demandRange(operation, PUSH, STOP);
        demandRange(argument, 0, at(LAST_ARGUMENT, operation));
        demandState(programs.lengthOf(program) < STEPS);
        for (Chain chain : chains) {
            demandState(chain.transactionCount == 0);
        }
        return programs.append(program, operation, argument);
    }

    public int upgrade(int chain, int height) throws IndexOutOfBoundsException, IllegalArgumentException, IllegalStateException {
        Chain on = demandChain(chain);
        demandRange(height, 1, LATEST_UPGRADE);
        demandState(on.blockCount == 1);
        int before = on.upgradeHeight;
        on.upgradeHeight = height;
        return before;
    }

    // ---- transactions

    public int submit(int chain, int sender, int nonce, int target, int value, int input, int gas, int most, int tip) throws IndexOutOfBoundsException, IllegalArgumentException, IllegalStateException {
        Chain on = demandChain(chain);
        demandIndex(sender, PEOPLE);
        demandRange(nonce, 0, LAST_NONCE);
        demandRange(target, 0, ACCOUNTS + PROGRAMS - 1);
        demandRange(value, 0, 10000);
        demandRange(input, 0, 9999);
        demandRange(gas, START_GAS, BLOCK_GAS);
        demandRange(most, 1, MOST_PRICE);
        demandRange(tip, 0, most);
        demandState(on.transactionCount < TRANSACTIONS);
        Transaction fresh = on.draft();
        fresh.order(sender, nonce, target, value, input, gas);
        fresh.bid(most, tip);
        return on.admit(fresh);
    }

    public int claim(int chain, int sender, int nonce, int lock, int most, int tip) throws IndexOutOfBoundsException, IllegalArgumentException, IllegalStateException {
        Chain on = demandChain(chain);
        Chain other = demandChain(CHAINS - 1 - chain);
        demandIndex(lock, other.transactionCount);
        demandIndex(sender, PEOPLE);
        demandRange(nonce, 0, LAST_NONCE);
        demandRange(most, 1, MOST_PRICE);
        demandRange(tip, 0, most);
        Transaction locked = other.numbered(lock);
        demandArgument(locked.isLock());
        demandState(other.lastFinalBlock().holds(lock));
        demandState(on.transactionCount < TRANSACTIONS);
        Transaction fresh = on.draft();
        fresh.order(sender, nonce, BRIDGE, 0, 0, CLAIM_GAS);
        fresh.bid(most, tip);
        fresh.nameLock(locked);
        return on.admit(fresh);
    }

    public int pool(int chain) throws IndexOutOfBoundsException {
        return demandChain(chain).countWaiting();
    }

    // ---- blocks

    public int make(int chain, int parent, int producer, int weight) throws IndexOutOfBoundsException, IllegalArgumentException, IllegalStateException {
        Chain on = demandChain(chain);
        Block before = demandBlock(chain, parent);
        demandIndex(producer, PEOPLE);
        demandRange(weight, 1, 9);
        demandState(on.blockCount < BLOCKS && !before.dropped);
        return on.grow(machine, before, producer, weight);
    }

    public int head(int chain) throws IndexOutOfBoundsException {
        return demandChain(chain).headBlock().number;
    }

    public int base(int chain, int block) throws IndexOutOfBoundsException {
        return demandBlock(chain, block).base;
    }

    public int used(int chain, int block) throws IndexOutOfBoundsException {
        return demandBlock(chain, block).used;
    }

    public int transactionAt(int chain, int block, int place) throws IndexOutOfBoundsException {
        Block of = demandBlock(chain, block);
        demandIndex(place, of.resultCount);
        return at(of.results, place);
    }

    public int eventAt(int chain, int block, int place) throws IndexOutOfBoundsException {
        Block of = demandBlock(chain, block);
        demandIndex(place, of.eventCount);
        return at(of.events, place);
    }

    public int bloom(int chain, int block) throws IndexOutOfBoundsException {
        return demandBlock(chain, block).bloom;
    }

    public int find(int chain, int topic) throws IndexOutOfBoundsException, IllegalArgumentException {
        Chain on = demandChain(chain);
        demandRange(topic, 0, TOPICS - 1);
        return on.search(topic);
    }

    // ---- states

    public int coins(int chain, int block, int account) throws IndexOutOfBoundsException, IllegalStateException {
        return at(demandState(chain, block, account).coins, account);
    }

    public int codeOf(int chain, int block, int account) throws IndexOutOfBoundsException, IllegalStateException {
        State of = demandState(chain, block, account);
        return 10 * at(of.nonces, account) + at(of.codes, account);
    }

    public int slot(int chain, int block, int account, int slot) throws IndexOutOfBoundsException, IllegalStateException {
        demandIndex(slot, SLOTS);
        return at(demandState(chain, block, account).slots, account * SLOTS + slot);
    }

    public int burned(int chain, int block) throws IndexOutOfBoundsException, IllegalStateException {
        return demandState(chain, block, 0).burned;
    }

    public int root(int chain, int block) throws IndexOutOfBoundsException {
        return demandBlock(chain, block).root;
    }

    public int rootAnew(int chain, int block) throws IndexOutOfBoundsException {
        Block last = demandBlock(chain, block);
        return demandChain(chain).runAnew(machine, last);
    }

    public int leaf(int chain, int block, int account) throws IndexOutOfBoundsException, IllegalStateException {
        return nodeOver(demandState(chain, block, account), 0, account);
    }

    public int proof(int chain, int block, int account, int round) throws IndexOutOfBoundsException, IllegalStateException {
        demandIndex(round, ROUNDS);
        return nodeOver(demandState(chain, block, account), round, account >> round ^ 1);
    }

    public boolean proves(int chain, int block, int account, int leaf, int first, int second, int third, int fourth) throws IndexOutOfBoundsException, IllegalArgumentException {
        Block of = demandBlock(chain, block);
        demandIndex(account, ACCOUNTS);
        demandRange(leaf, 0, MIXES - 1);
        demandRange(first, 0, MIXES - 1);
        demandRange(second, 0, MIXES - 1);
        demandRange(third, 0, MIXES - 1);
        demandRange(fourth, 0, MIXES - 1);
        int node = join(account, leaf, first);
        node = join(account >> 1, node, second);
        node = join(account >> 2, node, third);
        return join(account >> 3, node, fourth) == of.root;
    }

    public int prune(int chain) throws IndexOutOfBoundsException {
        return demandChain(chain).dropLower();
    }

    // ---- votes

    public boolean vote(int chain, int validator, int source, int target) throws IndexOutOfBoundsException, IllegalArgumentException, IllegalStateException {
        Chain on = demandChain(chain);
        demandIndex(validator, VALIDATORS);
        Block from = demandBlock(chain, source);
        Block to = demandBlock(chain, target);
        demandArgument(source != target && to.comesFrom(from));
        Validator voter = on.finality.validator(validator);
        demandState(!voter.punished && voter.voteCount < VOTES);
        boolean counts = voter.give(from, to);
        on.finality.settle(on.blocks);
        return counts;
    }

    public boolean isJustified(int chain, int block) throws IndexOutOfBoundsException {
        return demandBlock(chain, block).justified;
    }

    public int lastFinal(int chain) throws IndexOutOfBoundsException {
        return demandChain(chain).lastFinalBlock().number;
    }

    public int stake(int chain, int validator) throws IndexOutOfBoundsException {
        Chain on = demandChain(chain);
        demandIndex(validator, VALIDATORS);
        return on.finality.validator(validator).stakeNow();
    }

    // ---- what a call demands of its arguments

    private static void demandIndex(int number, int count) {
        if (number < 0 || number >= count) {
            throw new IndexOutOfBoundsException();
        }
    }

    private static void demandArgument(boolean right) {
        if (!right) {
            throw new IllegalArgumentException();
        }
    }

    private static void demandRange(int number, int least, int greatest) {
        demandArgument(number >= least && number <= greatest);
    }

    private static void demandState(boolean right) {
        if (!right) {
            throw new IllegalStateException();
        }
    }

    private Chain demandChain(int chain) {
        if (chain < 0 || chain >= chains.length) {
            throw new IndexOutOfBoundsException();
        }
        return chains[chain];
    }

    private Block demandBlock(int chain, int block) {
        Chain on = demandChain(chain);
        demandIndex(block, on.blockCount);
        return on.numberedBlock(block);
    }

    private State demandState(int chain, int block, int account) {
        Block of = demandBlock(chain, block);
        demandIndex(account, ACCOUNTS);
        demandState(!of.dropped);
        return of.state;
    }

    // ---- rows of numbers, and mixes

    private static int at(int[] row, int place) {
        return place >= 0 && place < row.length ? row[place] : 0;
    }

    private static void put(int[] row, int place, int number) {
        if (place >= 0 && place < row.length) {
            row[place] = number;
        }
    }

    private static int mix(int p, int q) {
        return (int) ((31L * p + 17L * q + 7L) % MIXES);
    }

    /** Mixes a node with its neighbour; an odd place stands behind its neighbour. */
    private static int join(int place, int node, int neighbour) {
        return (place & 1) == 0 ? mix(node, neighbour) : mix(neighbour, node);
    }

    /** The node over the 2 to the power of round leaves from place times that on. */
    private static int nodeOver(State state, int round, int place) {
        if (round <= 0 || round > ROUNDS) {
            return state.leafOf(place);
        }
        return mix(nodeOver(state, round - 1, 2 * place), nodeOver(state, round - 1, 2 * place + 1));
    }

    private static final class Programs {
        private final int[] operations = new int[PROGRAMS * STEPS];
        private final int[] arguments = new int[PROGRAMS * STEPS];
        private final int[] lengths = new int[PROGRAMS];

        int lengthOf(int program) {
            return at(lengths, program);
        }

        int operationAt(int program, int place) {
            return at(operations, program * STEPS + place);
        }

        int argumentAt(int program, int place) {
            return at(arguments, program * STEPS + place);
        }

        int append(int program, int operation, int argument) {
            int place = lengthOf(program);
            put(operations, program * STEPS + place, operation);
            put(arguments, program * STEPS + place, argument);
            put(lengths, program, place + 1);
            return place + 1;
        }
    }

    private static final class State {
        final int[] coins = new int[ACCOUNTS];
        final int[] nonces = new int[ACCOUNTS];
        /** The program and 1, added, or 0 without one. */
        final int[] codes = new int[ACCOUNTS];
        final int[] slots = new int[ACCOUNTS * SLOTS];
        int burned;
        /** A bit for each lock of the other chain. */
        long paid;

        void becomeFirst() {
            for (int a = 0; a < ACCOUNTS; a++) {
                put(coins, a, a < PEOPLE ? PERSON_COINS : a == BRIDGE ? BRIDGE_COINS : 0);
                put(nonces, a, 0);
                dropProgram(a);
            }
            burned = 0;
            paid = 0L;
        }

        void copyFrom(State other) {
            System.arraycopy(other.coins, 0, coins, 0, ACCOUNTS);
            System.arraycopy(other.nonces, 0, nonces, 0, ACCOUNTS);
            System.arraycopy(other.codes, 0, codes, 0, ACCOUNTS);
            System.arraycopy(other.slots, 0, slots, 0, ACCOUNTS * SLOTS);
            burned = other.burned;
            paid = other.paid;
        }

        void gain(int account, int amount) {
            if (account >= 0 && account < coins.length) {
                coins[account] += amount;
            }
        }

        void move(int from, int to, int amount) {
            if (from >= 0 && from < coins.length && to >= 0 && to < coins.length) {
                coins[from] -= amount;
                coins[to] += amount;
            }
        }

        void raiseNonce(int account) {
            if (account >= 0 && account < nonces.length) {
                nonces[account]++;
            }
        }

        void dropProgram(int account) {
            put(codes, account, 0);
            for (int s = 0; s < SLOTS; s++) {
                put(slots, account * SLOTS + s, 0);
            }
        }

        boolean isPaid(int lock) {
            return (paid >> lock & 1L) == 1L;
        }

        int leafOf(int account) {
            int first = account * SLOTS;
            int slotMix = mix(mix(at(slots, first), at(slots, first + 1)), mix(at(slots, first + 2), at(slots, first + 3)));
            return mix(at(coins, account) % MIXES, mix(at(nonces, account), mix(at(codes, account), slotMix)));
        }
    }

    private static final class Transaction {
        final int number;
        int sender;
        int nonce;
        int target;
        int value;
        int input;
        int gas;
        int most;
        int tip;
        /** NONE, if it is no claim. */
        int lock = NONE;
        int lockedValue;
        int payee;
        /** It has its number, and was not replaced or thrown out. */
        boolean live;

        Transaction(int number) {
            this.number = number;
        }

        void order(int from, int nonceOfSender, int to, int amount, int number, int gasToUse) {
            sender = from;
            nonce = nonceOfSender;
            target = to;
            value = amount;
            input = number;
            gas = gasToUse;
            lock = NONE;
        }

        void bid(int mostForEach, int tipForEach) {
            most = mostForEach;
            tip = tipForEach;
        }

        void nameLock(Transaction locked) {
            lock = locked.number;
            lockedValue = locked.value;
            payee = locked.input % PEOPLE;
        }

        boolean isLock() {
            return target == BRIDGE && value > 0;
        }

        boolean rivals(Transaction other) {
            return sender == other.sender && nonce == other.nonce;
        }

        boolean outbids(Transaction other) {
            return 10 * most >= 11 * other.most && 10 * tip >= 11 * other.tip;
        }

        boolean waitsBehind(Block block) {
            return live && !block.holds(number);
        }

        int priceAt(int base) {
            return Math.min(most, base + tip);
        }

        boolean fits(Block block) {
            return most >= block.base
                && gas <= BLOCK_GAS - block.used
                && at(block.state.nonces, sender) == nonce
                && at(block.state.coins, sender) >= value + gas * most;
        }
    }

    private static final class Block {
        final int number;
        final State state = new State();
        int height;
        int producer;
        int total;
        int base = FIRST_BASE;
        int used;
        final int[] results = new int[TRANSACTIONS];
        int resultCount;
        final int[] events = new int[EVENTS];
        int eventCount;
        int bloom;
        int root;
        boolean dropped;
        boolean justified;
        /** A bit for each block that was justified from this one. */
        int justifies;
        /** A bit for itself and each block that it comes from; none as long as it is not made. */
        int line;
        /** A bit for each transaction in itself and the blocks that it comes from. */
        long held;

        Block(int number) {
            this.number = number;
        }

        void becomeFirst() {
            line = 1;
            justified = true;
            state.becomeFirst();
            seal();
        }

        void follow(Block parent, int person, int weight) {
            height = parent.height + 1;
            producer = person;
            total = parent.total + weight;
            base = Math.max(1, parent.base + parent.base * (parent.used - 300) / 2400);
            line = parent.line | 1 << number;
            held = parent.held;
            state.copyFrom(parent.state);
        }

        /** Takes what the machine must know of a block that is run anew. */
        void imitate(Block past) {
            producer = past.producer;
            base = past.base;
            eventCount = 0;
        }

        void enter(int transaction, int gas, boolean well) {
            put(results, resultCount, 100000 * gas + 10 * transaction + (well ? 1 : 0));
            resultCount++;
            used += gas;
            held |= 1L << transaction;
        }

        int transactionIn(int place) {
            return at(results, place) % 100000 / 10;
        }

        void addEvent(int topic, int account) {
            if (eventCount >= 0 && eventCount < events.length) {
                events[eventCount] = 100 * topic + account;
                eventCount++;
            }
        }

        void seal() {
            for (int place = 0; place < eventCount; place++) {
                bloom |= bloomOf(topicIn(place));
            }
            root = nodeOver(state, ROUNDS, 0);
        }

        int topicIn(int place) {
            return at(events, place) / 100;
        }

        boolean comesFrom(Block other) {
            return (line >> other.number & 1) == 1;
        }

        boolean holds(int transaction) {
            return (held >> transaction & 1L) == 1L;
        }

        boolean hasBloomOf(int topic) {
            int bits = bloomOf(topic);
            return (bloom & bits) == bits;
        }

        int countEvents(int topic) {
            int count = 0;
            for (int place = 0; place < eventCount; place++) {
                if (topicIn(place) == topic) {
                    count++;
                }
            }
            return count;
        }

        private static int bloomOf(int topic) {
            return 1 << topic % 8 | 1 << 8 + (5 * topic + 3) % 8;
        }
    }

    /** A call that is going on, and what to go back to if it ends badly. */
    private static final class Frame {
        private final int[] heap = new int[HEAP];
        private int size;
        private final int[] memory = new int[CELLS];
        private int highestCell;
        int own;
        private int caller;
        private int value;
        private int input;
        int program;
        int next;
        int gas;
        final State savedState = new State();
        int savedEvents;
        int savedRefund;

        void open(int code, int from, int to, int coinsSent, int number) {
            program = code;
            caller = from;
            own = to;
            value = coinsSent;
            input = number;
            next = 0;
            size = 0;
            highestCell = NONE;
            for (int cell = 0; cell < CELLS; cell++) {
                put(memory, cell, 0);
            }
        }

        void save(State state, int eventCount, int refund) {
            savedState.copyFrom(state);
            savedEvents = eventCount;
            savedRefund = refund;
        }

        boolean heapAllows(int operation) {
            int rest = size - at(TAKEN, operation);
            return rest >= 0 && rest + at(PUSHED, operation) <= HEAP;
        }

        int top() {
            return at(heap, size - 1);
        }

        int take() {
            if (size <= 0 || size > heap.length) {
                return 0;
            }
            size--;
            return heap[size];
        }

        void push(int number) {
            if (size >= 0 && size < heap.length) {
                heap[size] = number;
                size++;
            }
        }

        /** What it costs besides to reach a cell above all that were put or got. */
        int growthTo(int cell) {
            return cell > highestCell ? memoryGas(cell) - memoryGas(highestCell) : 0;
        }

        private static int memoryGas(int cell) {
            return (cell + 1) * (cell + 1) / 2;
        }

        private void reach(int cell) {
            highestCell = Math.max(highestCell, cell);
        }

        /** Does a step that neither sees nor changes a state. */
        void perform(int operation, int argument) {
            switch (operation) {
                case PUSH:
                    push(argument);
                    break;
                case DOUBLE:
                    push(top());
                    break;
                case DROP:
                    take();
                    break;
                case JUMP:
                    next = argument;
                    break;
                case JUMP_IF_ZERO:
                    next = take() == 0 ? argument : next;
                    break;
                case CALLER:
                    push(caller);
                    break;
                case VALUE:
                    push(value);
                    break;
                case INPUT:
                    push(input);
                    break;
                case PUT:
                    reach(argument);
                    put(memory, argument, take());
                    break;
                case GET:
                    reach(argument);
                    push(at(memory, argument));
                    break;
                default:
                    calculate(operation);
                    break;
            }
        }

        private void calculate(int operation) {
            int b = take();
            int a = take();
            switch (operation) {
                case ADD:
                    push((a + b) % NUMBERS);
                    break;
                case SUB:
                    push(Math.floorMod(a - b, NUMBERS));
                    break;
                case MUL:
                    push((int) ((long) a * b % NUMBERS));
                    break;
                case IS_LESS:
                    push(a < b ? 1 : 0);
                    break;
                case IS_SAME:
                    push(a == b ? 1 : 0);
                    break;
                case SWAP:
                    push(b);
                    push(a);
                    break;
                default:
                    break;
            }
        }
    }

    /** Runs transactions on the state of the block that is opened. */
    private static final class Machine {
        private final Programs programs;
        private final Frame[] frames = new Frame[DEEPEST];
        final Block bench = new Block(NONE);
        private Block block = bench;
        private State state = bench.state;
        private int freshWriteGas;
        private int refund;
        int gasUsed;
        boolean endedWell;

        Machine(Programs programs) {
            this.programs = programs;
            for (int f = 0; f < DEEPEST; f++) {
                frames[f] = new Frame();
            }
        }

        void open(Block worked, boolean upgraded) {
            block = worked;
            state = worked.state;
            freshWriteGas = upgraded ? UPGRADED_WRITE_GAS : FRESH_WRITE_GAS;
        }

        void transact(Transaction t) {
            int price = t.priceAt(block.base);
            state.raiseNonce(t.sender);
            state.gain(t.sender, -t.gas * price);
            refund = 0;
            Frame first = frames[0];
            first.gas = t.gas - START_GAS;
            if (t.lock != NONE) {
                endedWell = payOut(t);
            } else if (t.target >= ACCOUNTS) {
                endedWell = found(t.sender, t.nonce, t.target - ACCOUNTS, t.value) != 0;
            } else {
                endedWell = deliver(1, t.sender, t.target, t.value, t.input, first.gas);
            }
            settleGas(t, price, t.gas - first.gas);
        }

        private void settleGas(Transaction t, int price, int gross) {
            gasUsed = gross - Math.min(refund, gross / 5);
            state.gain(t.sender, (t.gas - gasUsed) * price);
            state.burned += gasUsed * block.base;
            state.gain(block.producer, gasUsed * (price - block.base));
        }

        private boolean payOut(Transaction t) {
            if (state.isPaid(t.lock) || at(state.coins, BRIDGE) < t.lockedValue) {
                return false;
            }
            state.move(BRIDGE, t.payee, t.lockedValue);
            state.paid |= 1L << t.lock;
            return true;
        }

        /** Makes a contract; answers its address, or 0 if that is not free. */
        private int found(int maker, int nonce, int program, int value) {
            int address = FIRST_CONTRACT + (5 * maker + 3 * nonce) % CONTRACTS;
            if (at(state.codes, address) != 0 || at(state.nonces, address) != 0) {
                return 0;
            }
            put(state.codes, address, program + 1);
            put(state.nonces, address, 1);
            state.move(maker, address, value);
            return address;
        }

        /** Sends a value, and runs what program is there; the frame of the depth tells what gas is left. */
        private boolean deliver(int depth, int from, int to, int value, int input, int gas) {
            if (depth < 1 || depth > DEEPEST) {
                return false;
            }
            Frame frame = frames[depth - 1];
            frame.gas = gas;
            int code = at(state.codes, to);
            if (code == 0) {
                state.move(from, to, value);
                return true;
            }
            frame.open(code - 1, from, to, value, input);
            frame.save(state, block.eventCount, refund);
            state.move(from, to, value);
            boolean well = runProgram(depth, frame);
            if (!well) {
                undo(frame);
            }
            return well;
        }

        private void undo(Frame frame) {
            state.copyFrom(frame.savedState);
            block.eventCount = frame.savedEvents;
            refund = frame.savedRefund;
        }

        private boolean runProgram(int depth, Frame frame) {
            for (int done = 0; done < MOST_STEPS; done++) {
                if (frame.next >= programs.lengthOf(frame.program)) {
                    return true;
                }
                int operation = programs.operationAt(frame.program, frame.next);
                int argument = programs.argumentAt(frame.program, frame.next);
                int price = at(STEP_GAS, operation) + extraGas(frame, operation, argument);
                if (!frame.heapAllows(operation) || price > frame.gas) {
                    frame.gas = 0;
                    return false;
                }
                frame.gas -= price;
                frame.next++;
                if (operation >= END) {
                    return finish(frame, operation);
                } else if (operation == CALL) {
                    callFrom(depth, frame);
                } else if (operation == MAKE) {
                    makeFrom(frame, argument);
                } else if (!touchState(frame, operation, argument)) {
                    frame.perform(operation, argument);
                }
            }
            return false;
        }

        private int extraGas(Frame frame, int operation, int argument) {
            if (operation == PUT || operation == GET) {
                return frame.growthTo(argument);
            }
            boolean fresh = operation == WRITE && at(state.slots, frame.own * SLOTS + argument) == 0 && frame.top() != 0;
            return fresh ? freshWriteGas - WRITE_GAS : 0;
        }

        /** Ends a call by END, FAIL or STOP. */
        private boolean finish(Frame frame, int operation) {
            if (operation == END) {
                int heir = frame.take() % ACCOUNTS;
                int rest = at(state.coins, frame.own);
                state.gain(frame.own, -rest);
                if (heir == frame.own) {
                    state.burned += rest;
                } else {
                    state.gain(heir, rest);
                }
                state.dropProgram(frame.own);
                refund += ENDED_BACK;
            }
            return operation != FAIL;
        }

        /** Answers whether it was a step that sees or changes the state. */
        private boolean touchState(Frame frame, int operation, int argument) {
            switch (operation) {
                case READ:
                    frame.push(at(state.slots, frame.own * SLOTS + argument));
                    return true;
                case WRITE:
                    write(frame.own * SLOTS + argument, frame.take());
                    return true;
                case COINS:
                    frame.push(at(state.coins, frame.take() % ACCOUNTS) % NUMBERS);
                    return true;
                case LOG:
                    block.addEvent(frame.take() % TOPICS, frame.own);
                    return true;
                default:
                    return false;
            }
        }

        private void write(int place, int number) {
            if (at(state.slots, place) != 0 && number == 0) {
                refund += CLEARED_BACK;
            }
            put(state.slots, place, number);
        }

        private void callFrom(int depth, Frame frame) {
            int input = frame.take();
            int value = frame.take();
            int account = frame.take() % ACCOUNTS;
            if (depth < 1 || depth >= DEEPEST || at(state.coins, frame.own) < value) {
                frame.push(0);
                return;
            }
            int given = frame.gas - frame.gas / 4;
            boolean well = deliver(depth + 1, frame.own, account, value, input, given);
            frame.gas += frames[depth].gas - given;
            frame.push(well ? 1 : 0);
        }

        private void makeFrom(Frame frame, int program) {
            int value = frame.take();
            int nonce = at(state.nonces, frame.own);
            state.raiseNonce(frame.own);
            boolean affords = at(state.coins, frame.own) >= value;
            frame.push(affords ? found(frame.own, nonce, program, value) : 0);
        }
    }

    private static final class Vote {
        int source;
        int target;
        int sourceHeight;
        int targetHeight;

        void become(Block from, Block to) {
            source = from.number;
            target = to.number;
            sourceHeight = from.height;
            targetHeight = to.height;
        }

        boolean clashesWith(Vote other) {
            return targetHeight == other.targetHeight && target != other.target || surrounds(other) || other.surrounds(this);
        }

        private boolean surrounds(Vote other) {
            return sourceHeight < other.sourceHeight && targetHeight > other.targetHeight;
        }
    }

    private static final class Validator {
        private final Vote[] votes = new Vote[VOTES];
        int voteCount;
        boolean punished;

        Validator() {
            for (int v = 0; v < VOTES; v++) {
                votes[v] = new Vote();
            }
        }

        int stakeNow() {
            return punished ? 0 : STAKE;
        }

        /** The votes that count; a punished one has none. */
        int countingVotes() {
            return punished ? 0 : Math.min(voteCount, VOTES);
        }

        Vote voteAt(int place) {
            return votes[place >= 0 && place < VOTES ? place : 0];
        }

        boolean give(Block from, Block to) {
            Vote fresh = voteAt(voteCount);
            fresh.become(from, to);
            for (int v = 0; v < voteCount; v++) {
                if (fresh.clashesWith(voteAt(v))) {
                    punished = true;
                }
            }
            voteCount++;
            return !punished;
        }

        boolean supports(Vote link) {
            for (int v = 0; v < countingVotes(); v++) {
                Vote given = voteAt(v);
                if (given.source == link.source && given.target == link.target) {
                    return true;
                }
            }
            return false;
        }
    }

    private static final class Finality {
        private final Validator[] validators = new Validator[VALIDATORS];
        int lastFinal;

        Finality() {
            for (int v = 0; v < VALIDATORS; v++) {
                validators[v] = new Validator();
            }
        }

        Validator validator(int number) {
            return validators[number >= 0 && number < VALIDATORS ? number : 0];
        }

        void settle(Block[] blocks) {
            boolean more = true;
            for (int look = 0; more && look < MOST_LOOKS; look++) {
                more = justifyOne(blocks);
            }
            moveFinal(blocks);
        }

        private boolean justifyOne(Block[] blocks) {
            for (Validator voter : validators) {
                for (int v = 0; v < voter.countingVotes(); v++) {
                    if (justify(blocks, voter.voteAt(v))) {
                        return true;
                    }
                }
            }
            return false;
        }

        private boolean justify(Block[] blocks, Vote link) {
            int from = link.source;
            int to = link.target;
            if (from < 0 || from >= blocks.length || to < 0 || to >= blocks.length) {
                return false;
            }
            boolean known = (blocks[from].justifies >> to & 1) == 1;
            if (known || !blocks[from].justified || !carries(link)) {
                return false;
            }
            blocks[from].justifies |= 1 << to;
            blocks[to].justified = true;
            return true;
        }

        private boolean carries(Vote link) {
            int all = 0;
            int given = 0;
            for (Validator voter : validators) {
                all += voter.stakeNow();
                given += voter.supports(link) ? voter.stakeNow() : 0;
            }
            return 3 * given >= 2 * all;
        }

        private void moveFinal(Block[] blocks) {
            if (lastFinal < 0 || lastFinal >= blocks.length) {
                return;
            }
            Block before = blocks[lastFinal];
            Block best = before;
            for (Block block : blocks) {
                if (block.comesFrom(before) && block.height > best.height && justifiesNext(blocks, block)) {
                    best = block;
                }
            }
            lastFinal = best.number;
        }

        private static boolean justifiesNext(Block[] blocks, Block source) {
            for (Block block : blocks) {
                if ((source.justifies >> block.number & 1) == 1 && block.height == source.height + 1) {
                    return true;
                }
            }
            return false;
        }
    }

    private static final class Chain {
        final Block[] blocks = new Block[BLOCKS];
        int blockCount = 1;
        private final Transaction[] transactions = new Transaction[TRANSACTIONS];
        int transactionCount;
        int upgradeHeight = LATEST_UPGRADE;
        final Finality finality = new Finality();

        Chain() {
            for (int b = 0; b < BLOCKS; b++) {
                blocks[b] = new Block(b);
            }
            for (int t = 0; t < TRANSACTIONS; t++) {
                transactions[t] = new Transaction(t);
            }
            blocks[0].becomeFirst();
        }

        Block numberedBlock(int number) {
            return blocks[number >= 0 && number < BLOCKS ? number : 0];
        }

        Transaction numbered(int number) {
            return transactions[number >= 0 && number < TRANSACTIONS ? number : 0];
        }

        Block lastFinalBlock() {
            return numberedBlock(finality.lastFinal);
        }

        Block headBlock() {
            Block last = lastFinalBlock();
            Block best = last;
            for (Block block : blocks) {
                if (block.comesFrom(last) && block.total > best.total) {
                    best = block;
                }
            }
            return best;
        }

        int countWaiting() {
            Block top = headBlock();
            int count = 0;
            for (Transaction t : transactions) {
                if (t.waitsBehind(top)) {
                    count++;
                }
            }
            return count;
        }

        /** The transaction that gets the next number, unless it is refused. */
        Transaction draft() {
            return numbered(transactionCount);
        }

        int admit(Transaction fresh) {
            Block top = headBlock();
            boolean replaces = false;
            for (Transaction t : transactions) {
                if (t.waitsBehind(top) && t.rivals(fresh)) {
                    if (!fresh.outbids(t)) {
                        return NONE;
                    }
                    replaces = true;
                }
            }
            if (replaces) {
                dropRivals(fresh, top);
            } else if (countWaiting() >= POOL_ROOM && !throwOutFor(fresh, top)) {
                return NONE;
            }
            fresh.live = true;
            transactionCount++;
            return fresh.number;
        }

        private void dropRivals(Transaction fresh, Block top) {
            for (Transaction t : transactions) {
                if (t.waitsBehind(top) && t.rivals(fresh)) {
                    t.live = false;
                }
            }
        }

        private boolean throwOutFor(Transaction fresh, Block top) {
            Transaction least = fresh;
            for (Transaction t : transactions) {
                if (t.waitsBehind(top) && t.tip <= least.tip) {
                    least = t;
                }
            }
            if (least.tip >= fresh.tip) {
                return false;
            }
            least.live = false;
            return true;
        }

        int grow(Machine machine, Block parent, int producer, int weight) {
            Block child = numberedBlock(blockCount);
            child.follow(parent, producer, weight);
            machine.open(child, isUpgraded(child));
            for (int left = TRANSACTIONS; left > 0; left--) {
                Transaction best = bestFor(child);
                if (best == null) {
                    break;
                }
                machine.transact(best);
                child.enter(best.number, machine.gasUsed, machine.endedWell);
            }
            child.seal();
            blockCount++;
            return child.number;
        }

        private Transaction bestFor(Block block) {
            Transaction best = null;
            for (Transaction t : transactions) {
                if (t.waitsBehind(block) && t.fits(block)
                    && (best == null || t.priceAt(block.base) > best.priceAt(block.base))) {
                    best = t;
                }
            }
            return best;
        }

        private boolean isUpgraded(Block block) {
            return block.height >= upgradeHeight;
        }

        int runAnew(Machine machine, Block last) {
            Block bench = machine.bench;
            bench.state.becomeFirst();
            // A block has a greater number than all that it comes from.
            for (Block past : blocks) {
                if (last.comesFrom(past)) {
                    bench.imitate(past);
                    machine.open(bench, isUpgraded(past));
                    for (int place = 0; place < past.resultCount; place++) {
                        machine.transact(numbered(past.transactionIn(place)));
                    }
                }
            }
            return nodeOver(bench.state, ROUNDS, 0);
        }

        int search(int topic) {
            Block top = headBlock();
            int marked = 0;
            int found = 0;
            for (Block block : blocks) {
                if (top.comesFrom(block) && block.hasBloomOf(topic)) {
                    marked++;
                    found += block.countEvents(topic);
                }
            }
            return 100 * marked + found;
        }

        int dropLower() {
            int height = lastFinalBlock().height;
            int count = 0;
            for (Block block : blocks) {
                if (block.line != 0 && block.height < height && !block.dropped) {
                    block.dropped = true;
                    count++;
                }
            }
            return count;
        }
    }
}
