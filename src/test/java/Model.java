import java.util.ArrayDeque;
import java.util.ArrayList;
import java.util.HashSet;
import java.util.List;
import java.util.Set;

/**
 * The document once more, in another form than the class (copies instead of marks, walks over parents
 * instead of sets of bits, exceptions for calls that end badly), so that random runs can compare the two.
 */
final class Model {
    static final class Account implements Cloneable {
        int coins;
        int nonce;
        int program = -1;
        int[] slots = new int[4];

        Account copy() {
            Account a = new Account();
            a.coins = coins;
            a.nonce = nonce;
            a.program = program;
            a.slots = slots.clone();
            return a;
        }
    }

    static final class World {
        Account[] accounts = new Account[16];
        int burned;
        int back;
        Set<Integer> paid = new HashSet<>();
        List<int[]> events = new ArrayList<>();

        static World first() {
            World w = new World();
            for (int i = 0; i < 16; i++) {
                w.accounts[i] = new Account();
                w.accounts[i].coins = i <= 5 ? 10000 : i == 15 ? 20000 : 0;
            }
            return w;
        }

        World copy() {
            World w = new World();
            for (int i = 0; i < 16; i++) {
                w.accounts[i] = accounts[i].copy();
            }
            w.burned = burned;
            w.back = back;
            w.paid = new HashSet<>(paid);
            w.events = new ArrayList<>(events);
            return w;
        }

        void become(World w) {
            accounts = w.accounts;
            burned = w.burned;
            back = w.back;
            paid = w.paid;
            events = w.events;
        }
    }

    static final class Tx {
        int number;
        int sender;
        int nonce;
        int target;
        int value;
        int input;
        int gas;
        int most;
        int tip;
        Tx claimed;
        boolean out;
    }

    static final class Block {
        int number;
        Block parent;
        int height;
        int producer;
        int weight;
        int base = 10;
        int used;
        List<Tx> txs = new ArrayList<>();
        List<Integer> results = new ArrayList<>();
        List<int[]> events = new ArrayList<>();
        World world;
        boolean dropped;
        boolean justified;
        Set<Block> justifiedFromMe = new HashSet<>();

        int total() {
            return parent == null ? 0 : weight + parent.total();
        }

        boolean from(Block other) {
            return this == other || parent != null && parent.from(other);
        }

        boolean has(Tx tx) {
            return txs.contains(tx) || parent != null && parent.has(tx);
        }
    }

    static final class Side {
        List<Block> blocks = new ArrayList<>();
        List<Tx> txs = new ArrayList<>();
        int upgrade = 1000;
        List<List<Block[]>> votes = new ArrayList<>();
        boolean[] punished = new boolean[4];
        Block last;
    }

    /** A call that ends badly. */
    static final class Bad extends Exception {
        private static final long serialVersionUID = 1L;
        final int left;

        Bad(int left) {
            super(null, null, false, false);
            this.left = left;
        }
    }

    final List<List<int[]>> programs = new ArrayList<>();
    final Side[] sides = {new Side(), new Side()};

    Model() {
        for (int p = 0; p < 8; p++) {
            programs.add(new ArrayList<>());
        }
        for (Side side : sides) {
            Block b = new Block();
            b.world = World.first();
            b.justified = true;
            side.blocks.add(b);
            side.last = b;
            for (int v = 0; v < 4; v++) {
                side.votes.add(new ArrayList<>());
            }
        }
    }

    private static void index(boolean right) {
        if (!right) {
            throw new IndexOutOfBoundsException();
        }
    }

    private static void argument(boolean right) {
        if (!right) {
            throw new IllegalArgumentException();
        }
    }

    private static void state(boolean right) {
        if (!right) {
            throw new IllegalStateException();
        }
    }

    private Side side(int chain) {
        index(chain == 0 || chain == 1);
        return sides[chain];
    }

    private Block block(int chain, int block) {
        Side s = side(chain);
        index(block >= 0 && block < s.blocks.size());
        return s.blocks.get(block);
    }

    int step(int program, int operation, int argument) {
        index(program >= 0 && program < 8);
        int greatest = switch (operation) {
            case 0 -> 9999;
            case 9, 10 -> 3;
            case 11, 12 -> 20;
            case 17, 18 -> 15;
            case 21 -> 7;
            default -> 0;
        };
        argument(operation >= 0 && operation <= 24 && argument >= 0 && argument <= greatest);
        state(programs.get(program).size() < 20 && sides[0].txs.isEmpty() && sides[1].txs.isEmpty());
        programs.get(program).add(new int[] {operation, argument});
        return programs.get(program).size();
    }

    int upgrade(int chain, int height) {
        Side s = side(chain);
        argument(height >= 1 && height <= 1000);
        state(s.blocks.size() <= 1);
        int before = s.upgrade;
        s.upgrade = height;
        return before;
    }

    int submit(int chain, int sender, int nonce, int target, int value, int input, int gas, int most, int tip) {
        Side s = side(chain);
        index(sender >= 0 && sender <= 5);
        argument(nonce >= 0 && nonce <= 9 && target >= 0 && target <= 23 && value >= 0 && value <= 10000);
        argument(input >= 0 && input <= 9999 && gas >= 20 && gas <= 600 && most >= 1 && most <= 100);
        argument(tip >= 0 && tip <= most);
        state(s.txs.size() < 40);
        Tx tx = new Tx();
        tx.sender = sender;
        tx.nonce = nonce;
        tx.target = target;
        tx.value = value;
        tx.input = input;
        tx.gas = gas;
        tx.most = most;
        tx.tip = tip;
        return enter(s, tx);
    }

    int claim(int chain, int sender, int nonce, int lock, int most, int tip) {
        Side s = side(chain);
        Side other = sides[1 - chain];
        index(lock >= 0 && lock < other.txs.size());
        index(sender >= 0 && sender <= 5);
        argument(nonce >= 0 && nonce <= 9 && most >= 1 && most <= 100 && tip >= 0 && tip <= most);
        Tx locked = other.txs.get(lock);
        argument(locked.claimed == null && locked.target == 15 && locked.value > 0);
        state(other.last.has(locked));
        state(s.txs.size() < 40);
        Tx tx = new Tx();
        tx.sender = sender;
        tx.nonce = nonce;
        tx.target = 15;
        tx.gas = 60;
        tx.most = most;
        tx.tip = tip;
        tx.claimed = locked;
        return enter(s, tx);
    }

    private int enter(Side s, Tx tx) {
        List<Tx> pool = poolOf(s);
        List<Tx> same = new ArrayList<>();
        for (Tx t : pool) {
            if (t.sender == tx.sender && t.nonce == tx.nonce) {
                same.add(t);
            }
        }
        for (Tx t : same) {
            if (10 * tx.most < 11 * t.most || 10 * tx.tip < 11 * t.tip) {
                return -1;
            }
        }
        for (Tx t : same) {
            t.out = true;
        }
        if (same.isEmpty() && pool.size() >= 10) {
            Tx least = pool.get(pool.size() - 1);
            for (int i = pool.size() - 1; i >= 0; i--) {
                if (pool.get(i).tip < least.tip) {
                    least = pool.get(i);
                }
            }
            if (least.tip >= tx.tip) {
                return -1;
            }
            least.out = true;
        }
        tx.number = s.txs.size();
        s.txs.add(tx);
        return tx.number;
    }

    private List<Tx> poolOf(Side s) {
        List<Tx> pool = new ArrayList<>();
        Block head = headOf(s);
        for (Tx t : s.txs) {
            if (!t.out && !head.has(t)) {
                pool.add(t);
            }
        }
        return pool;
    }

    private Block headOf(Side s) {
        Block best = null;
        for (Block b : s.blocks) {
            if (b.from(s.last) && (best == null || b.total() > best.total())) {
                best = b;
            }
        }
        return best;
    }

    int pool(int chain) {
        return poolOf(side(chain)).size();
    }

    int head(int chain) {
        return headOf(side(chain)).number;
    }

    int make(int chain, int parent, int producer, int weight) {
        Side s = side(chain);
        Block p = block(chain, parent);
        index(producer >= 0 && producer <= 5);
        argument(weight >= 1 && weight <= 9);
        state(s.blocks.size() < 24 && !p.dropped);
        Block b = new Block();
        b.number = s.blocks.size();
        b.parent = p;
        b.height = p.height + 1;
        b.producer = producer;
        b.weight = weight;
        b.base = Math.max(1, p.base + (int) (p.base * (p.used - 300) / 2400.0));
        b.world = p.world.copy();
        b.world.events = new ArrayList<>();
        while (true) {
            Tx best = null;
            for (Tx t : s.txs) {
                if (!t.out && !b.has(t) && fit(t, b) && t.gas <= 600 - b.used
                    && (best == null || gain(t, b) > gain(best, b))) {
                    best = t;
                }
            }
            if (best == null) {
                break;
            }
            int result = run(best, b.world, b, s);
            b.txs.add(best);
            b.results.add(result);
            b.used += result / 100000;
        }
        b.events = b.world.events;
        s.blocks.add(b);
        return b.number;
    }

    private static int gain(Tx t, Block b) {
        return Math.min(t.most, b.base + t.tip) - b.base;
    }

    private static boolean fit(Tx t, Block b) {
        Account a = b.world.accounts[t.sender];
        return a.nonce == t.nonce && a.coins >= t.value + t.gas * t.most && t.most >= b.base;
    }

    private int run(Tx t, World w, Block b, Side s) {
        int price = Math.min(t.most, b.base + t.tip);
        w.accounts[t.sender].nonce++;
        w.accounts[t.sender].coins -= t.gas * price;
        w.back = 0;
        int left = t.gas - 20;
        int well = 1;
        if (t.claimed != null) {
            Account bridge = w.accounts[15];
            if (w.paid.contains(t.claimed.number) || bridge.coins < t.claimed.value) {
                well = 0;
            } else {
                bridge.coins -= t.claimed.value;
                w.accounts[t.claimed.input % 6].coins += t.claimed.value;
                w.paid.add(t.claimed.number);
            }
        } else if (t.target >= 16) {
            well = contract(w, t.sender, t.nonce, t.target - 16, t.value) < 0 ? 0 : 1;
        } else {
            try {
                left = call(w, 1, t.sender, t.target, t.value, t.input, left, b.height >= s.upgrade);
            } catch (Bad bad) {
                left = bad.left;
                well = 0;
            }
        }
        int used = t.gas - left;
        used -= Math.min(w.back, used / 5);
        w.accounts[t.sender].coins += (t.gas - used) * price;
        w.burned += used * b.base;
        w.accounts[b.producer].coins += used * (price - b.base);
        return 100000 * used + 10 * t.number + well;
    }

    private static int contract(World w, int maker, int nonce, int program, int value) {
        int address = 6 + (5 * maker + 3 * nonce) % 9;
        Account a = w.accounts[address];
        if (a.program >= 0 || a.nonce != 0) {
            return -1;
        }
        a.program = program;
        a.nonce = 1;
        w.accounts[maker].coins -= value;
        a.coins += value;
        return address;
    }

    /** Answers the gas that is left. */
    private int call(World w, int depth, int from, int to, int value, int input, int gas, boolean upgraded) throws Bad {
        World before = w.copy();
        w.accounts[from].coins -= value;
        w.accounts[to].coins += value;
        if (w.accounts[to].program < 0) {
            return gas;
        }
        try {
            return new Run(w, depth, from, to, value, input, gas, upgraded).go(programs.get(w.accounts[to].program));
        } catch (Bad bad) {
            w.become(before);
            throw bad;
        }
    }

    private static final int[] GAS = new int[25];

    static {
        int[][] prices = {{0, 3}, {1, 3}, {2, 3}, {3, 5}, {4, 3}, {5, 3}, {6, 3}, {7, 3}, {8, 2}, {9, 20}, {11, 5}, {12, 5},
            {13, 2}, {14, 2}, {15, 2}, {16, 10}, {17, 3}, {18, 3}, {19, 40}, {20, 20}, {21, 80}, {22, 20}, {23, 0}, {24, 0}};
        for (int[] p : prices) {
            GAS[p[0]] = p[1];
        }
    }

    private final class Run {
        final World w;
        final int depth;
        final int caller;
        final int own;
        final int value;
        final int input;
        final boolean upgraded;
        int gas;
        final ArrayDeque<Integer> heap = new ArrayDeque<>();
        final int[] cells = new int[16];
        int reached;

        Run(World w, int depth, int caller, int own, int value, int input, int gas, boolean upgraded) {
            this.w = w;
            this.depth = depth;
            this.caller = caller;
            this.own = own;
            this.value = value;
            this.input = input;
            this.gas = gas;
            this.upgraded = upgraded;
        }

        void pay(int price) throws Bad {
            if (gas < price) {
                throw new Bad(0);
            }
            gas -= price;
        }

        int pop() throws Bad {
            if (heap.isEmpty()) {
                throw new Bad(0);
            }
            return heap.pop();
        }

        void push(long number) throws Bad {
            if (heap.size() == 16) {
                throw new Bad(0);
            }
            heap.push((int) ((number % 1000000 + 1000000) % 1000000));
        }

        void cell(int c) throws Bad {
            int had = reached * reached / 2;
            reached = Math.max(reached, c + 1);
            pay(reached * reached / 2 - had);
        }

        int go(List<int[]> steps) throws Bad {
            int next = 0;
            while (next < steps.size()) {
                int op = steps.get(next)[0];
                int arg = steps.get(next)[1];
                next++;
                pay(GAS[op]);
                Account me = w.accounts[own];
                switch (op) {
                    case ForkBridge.JUMP -> next = arg;
                    case ForkBridge.JUMP_IF_ZERO -> next = pop() == 0 ? arg : next;
                    case ForkBridge.STOP -> next = steps.size();
                    case ForkBridge.FAIL -> throw new Bad(gas);
                    case ForkBridge.END -> {
                        int to = pop() % 16;
                        int all = me.coins;
                        me.coins = 0;
                        if (to == own) {
                            w.burned += all;
                        } else {
                            w.accounts[to].coins += all;
                        }
                        me.program = -1;
                        me.slots = new int[4];
                        w.back += 60;
                        next = steps.size();
                    }
                    case ForkBridge.READ -> push(me.slots[arg]);
                    case ForkBridge.WRITE -> {
                        int number = pop();
                        pay(me.slots[arg] == 0 && number != 0 ? upgraded ? 150 : 100 : 30);
                        w.back += me.slots[arg] != 0 && number == 0 ? 40 : 0;
                        me.slots[arg] = number;
                    }
                    case ForkBridge.CALL -> {
                        int with = pop();
                        int amount = pop();
                        int to = pop() % 16;
                        push(depth < 4 && me.coins >= amount ? inner(to, amount, with) : 0);
                    }
                    case ForkBridge.MAKE -> {
                        int amount = pop();
                        me.nonce++;
                        push(me.coins < amount ? 0 : Math.max(0, contract(w, own, me.nonce - 1, arg, amount)));
                    }
                    case ForkBridge.LOG -> w.events.add(new int[] {pop() % 16, own});
                    case ForkBridge.COINS -> push(w.accounts[pop() % 16].coins);
                    default -> small(op, arg);
                }
            }
            return gas;
        }

        int inner(int to, int amount, int with) {
            int given = gas - gas / 4;
            gas -= given;
            try {
                gas += call(w, depth + 1, own, to, amount, with, given, upgraded);
                return 1;
            } catch (Bad bad) {
                gas += bad.left;
                return 0;
            }
        }

        void small(int op, int arg) throws Bad {
            switch (op) {
                case ForkBridge.PUSH -> push(arg);
                case ForkBridge.CALLER -> push(caller);
                case ForkBridge.VALUE -> push(value);
                case ForkBridge.INPUT -> push(input);
                case ForkBridge.DROP -> pop();
                case ForkBridge.DOUBLE -> {
                    int top = pop();
                    push(top);
                    push(top);
                }
                case ForkBridge.PUT -> {
                    cell(arg);
                    cells[arg] = pop();
                }
                case ForkBridge.GET -> {
                    cell(arg);
                    push(cells[arg]);
                }
                default -> two(op);
            }
        }

        void two(int op) throws Bad {
            long b = pop();
            long a = pop();
            switch (op) {
                case ForkBridge.ADD -> push(a + b);
                case ForkBridge.SUB -> push(a - b);
                case ForkBridge.MUL -> push(a * b);
                case ForkBridge.IS_LESS -> push(a < b ? 1 : 0);
                case ForkBridge.IS_SAME -> push(a == b ? 1 : 0);
                default -> {
                    push(b);
                    push(a);
                }
            }
        }
    }

    int base(int chain, int block) {
        return block(chain, block).base;
    }

    int used(int chain, int block) {
        return block(chain, block).used;
    }

    int transactionAt(int chain, int block, int place) {
        Block b = block(chain, block);
        index(place >= 0 && place < b.results.size());
        return b.results.get(place);
    }

    int eventAt(int chain, int block, int place) {
        Block b = block(chain, block);
        index(place >= 0 && place < b.events.size());
        return 100 * b.events.get(place)[0] + b.events.get(place)[1];
    }

    int bloom(int chain, int block) {
        int bits = 0;
        for (int[] e : block(chain, block).events) {
            bits |= 1 << (e[0] % 8);
            bits |= 1 << (8 + (5 * e[0] + 3) % 8);
        }
        return bits;
    }

    int find(int chain, int topic) {
        Side s = side(chain);
        argument(topic >= 0 && topic <= 15);
        int count = 0;
        for (Block b = headOf(s); b != null; b = b.parent) {
            int bits = bloom(chain, b.number);
            if ((bits >> (topic % 8) & 1) == 1 && (bits >> (8 + (5 * topic + 3) % 8) & 1) == 1) {
                count += 100;
            }
            for (int[] e : b.events) {
                count += e[0] == topic ? 1 : 0;
            }
        }
        return count;
    }

    private World world(int chain, int block, int account) {
        Block b = block(chain, block);
        index(account >= 0 && account <= 15);
        state(!b.dropped);
        return b.world;
    }

    int coins(int chain, int block, int account) {
        return world(chain, block, account).accounts[account].coins;
    }

    int codeOf(int chain, int block, int account) {
        Account a = world(chain, block, account).accounts[account];
        return 10 * a.nonce + a.program + 1;
    }

    int slot(int chain, int block, int account, int slot) {
        block(chain, block);
        index(account >= 0 && account <= 15 && slot >= 0 && slot <= 3);
        return world(chain, block, account).accounts[account].slots[slot];
    }

    int burned(int chain, int block) {
        return world(chain, block, 0).burned;
    }

    static int mix(long p, long q) {
        return (int) ((31 * p + 17 * q + 7) % 1000003);
    }

    /** The nodes of the rounds 0 (the leaves) to 4 (the root). */
    private static List<int[]> tree(World w) {
        List<int[]> rounds = new ArrayList<>();
        int[] row = new int[16];
        for (int i = 0; i < 16; i++) {
            Account a = w.accounts[i];
            int slots = mix(mix(a.slots[0], a.slots[1]), mix(a.slots[2], a.slots[3]));
            row[i] = mix(a.coins % 1000003, mix(a.nonce, mix(a.program + 1, slots)));
        }
        rounds.add(row);
        while (row.length > 1) {
            int[] above = new int[row.length / 2];
            for (int i = 0; i < above.length; i++) {
                above[i] = mix(row[2 * i], row[2 * i + 1]);
            }
            rounds.add(above);
            row = above;
        }
        return rounds;
    }

    int root(int chain, int block) {
        return tree(block(chain, block).world).get(4)[0];
    }

    int rootAnew(int chain, int block) {
        return root(chain, block);
    }

    int leaf(int chain, int block, int account) {
        return tree(world(chain, block, account)).get(0)[account];
    }

    int proof(int chain, int block, int account, int round) {
        block(chain, block);
        index(account >= 0 && account <= 15 && round >= 0 && round <= 3);
        int place = account / (1 << round);
        return tree(world(chain, block, account)).get(round)[place % 2 == 0 ? place + 1 : place - 1];
    }

    boolean proves(int chain, int block, int account, int leaf, int first, int second, int third, int fourth) {
        block(chain, block);
        index(account >= 0 && account <= 15);
        int node = leaf;
        int place = account;
        for (int n : new int[] {leaf, first, second, third, fourth}) {
            argument(n >= 0 && n <= 1000002);
        }
        for (int n : new int[] {first, second, third, fourth}) {
            node = place % 2 == 0 ? mix(node, n) : mix(n, node);
            place /= 2;
        }
        return node == root(chain, block);
    }

    int prune(int chain) {
        Side s = side(chain);
        int count = 0;
        for (Block b : s.blocks) {
            if (b.height < s.last.height && !b.dropped) {
                b.dropped = true;
                count++;
            }
        }
        return count;
    }

    boolean vote(int chain, int validator, int source, int target) {
        Side s = side(chain);
        index(validator >= 0 && validator <= 3);
        Block from = block(chain, source);
        Block to = block(chain, target);
        argument(to != from && to.from(from));
        List<Block[]> mine = s.votes.get(validator);
        state(!s.punished[validator] && mine.size() < 20);
        for (Block[] old : mine) {
            boolean twice = old[1].height == to.height && old[1] != to;
            boolean around = from.height < old[0].height && to.height > old[1].height;
            boolean within = old[0].height < from.height && old[1].height > to.height;
            s.punished[validator] |= twice || around || within;
        }
        mine.add(new Block[] {from, to});
        settle(s);
        return !s.punished[validator];
    }

    private void settle(Side s) {
        boolean more = true;
        while (more) {
            more = false;
            for (Block from : s.blocks) {
                for (Block to : s.blocks) {
                    if (from.justified && !from.justifiedFromMe.contains(to) && carried(s, from, to)) {
                        from.justifiedFromMe.add(to);
                        to.justified = true;
                        more = true;
                    }
                }
            }
        }
        Block best = s.last;
        for (Block b : s.blocks) {
            for (Block to : b.justifiedFromMe) {
                if (b.from(s.last) && to.height - b.height == 1
                    && (b.height > best.height || b.height == best.height && b.number < best.number)) {
                    best = b;
                }
            }
        }
        s.last = best;
    }

    private static boolean carried(Side s, Block from, Block to) {
        int all = 0;
        int those = 0;
        for (int v = 0; v < 4; v++) {
            if (s.punished[v]) {
                continue;
            }
            all += 100;
            for (Block[] vote : s.votes.get(v)) {
                if (vote[0] == from && vote[1] == to) {
                    those += 100;
                    break;
                }
            }
        }
        return those > 0 && 3 * those >= 2 * all;
    }

    boolean isJustified(int chain, int block) {
        return block(chain, block).justified;
    }

    int lastFinal(int chain) {
        return side(chain).last.number;
    }

    int stake(int chain, int validator) {
        Side s = side(chain);
        index(validator >= 0 && validator <= 3);
        return s.punished[validator] ? 0 : 100;
    }
}
