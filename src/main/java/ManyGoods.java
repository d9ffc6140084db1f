/**
 * Goods that share arcs: the cheapest ways of each, the best plan, prices of more room, fair rates,
 * what could still flow, a cut, plans by hand.
 */
public final class ManyGoods {
    public static final int NONE = -1, BAD = -2, FULL = -3;

    private static final int MAX_NODES = 10;
    private static final int MAX_ARCS = 24;
    private static final int MAX_GOODS = 6;
    private static final int MAX_WAYS = 5;
    /** A way comes to no node twice, so it has fewer arcs than there are nodes. */
    private static final int MAX_STEPS = MAX_NODES - 1;
    private static final int MAX_CAPACITY = 1000;
    private static final int MAX_COST = 100;
    private static final int MAX_DEMAND = 1000;
    private static final int MAX_WORTH = 1000;
    private static final int MAX_EXTRA = 1000;
    /** Above the cost of every way. */
    private static final int FAR = MAX_COST * MAX_NODES;

    private static final int LENGTH = -1, TOTAL_COST = -2;

    private final Net net = new Net();
    private final WayTable table = new WayTable();
    private final Planner planner = new Planner();
    /** Asks what a wider arc would bring, so that the best plan itself stays as it is. */
    private final Planner probe = new Planner();
    private final Loads planLoads = new Loads();
    private final Loads triedLoads = new Loads();
    private final int[] tried = new int[MAX_GOODS];
    private final FairRates rates = new FairRates();
    private final Flow flow = new Flow();
    private int planVersion = NONE;

    public ManyGoods() {
        for (int g = 0; g < MAX_GOODS; g++) {
            tried[g] = NONE;
        }
    }

    // ---- the net, the goods

    public int node() {
        if (net.nodes >= MAX_NODES) {
            return FULL;
        }
        net.version++;
        return net.nodes++;
    }

    public int arc(int a, int b, int capacity, int cost) {
        if (!net.areTwoNodes(a, b) || !isWithin(capacity, 0, MAX_CAPACITY) || !isWithin(cost, 0, MAX_COST)) {
            return BAD;
        }
        if (net.arcs >= MAX_ARCS) {
            return FULL;
        }
        return net.addArc(a, b, capacity, cost);
    }

    public int capacity(int i, int v) {
        if (!net.isArc(i) || !isWithin(v, 0, MAX_CAPACITY)) {
            return BAD;
        }
        int was = net.capacities[i];
        net.capacities[i] = v;
        net.version++;
        return was;
    }

    public int cost(int i, int v) {
        if (!net.isArc(i) || !isWithin(v, 0, MAX_COST)) {
            return BAD;
        }
        int was = net.costs[i];
        net.costs[i] = v;
        net.version++;
        net.wayVersion++;
        return was;
    }

    public int good(int a, int b, int demand, int worth) {
        if (!net.areTwoNodes(a, b) || !isWithin(demand, 1, MAX_DEMAND) || !isWithin(worth, 0, MAX_WORTH)) {
            return BAD;
        }
        if (net.goods >= MAX_GOODS) {
            return FULL;
        }
        return net.addGood(a, b, demand, worth);
    }

    public int demand(int g, int v) {
        if (!net.isGood(g) || !isWithin(v, 1, MAX_DEMAND)) {
            return BAD;
        }
        int was = net.demands[g];
        net.demands[g] = v;
        net.version++;
        return was;
    }

    public int worth(int g, int v) {
        if (!net.isGood(g) || !isWithin(v, 0, MAX_WORTH)) {
            return BAD;
        }
        int was = net.worths[g];
        net.worths[g] = v;
        net.version++;
        return was;
    }

    // ---- ways, plans

    public int ways(int g) {
        if (!net.isGood(g)) {
            return BAD;
        }
        table.refresh(net);
        return table.lists[g].size;
    }

    public int way(int g, int k, int i) {
        if (!net.isGood(g)) {
            return BAD;
        }
        table.refresh(net);
        WayList list = table.lists[g];
        if (!list.has(k)) {
            return BAD;
        }
        Way chosen = list.items[k];
        if (i == LENGTH) {
            return chosen.length;
        }
        if (i == TOTAL_COST) {
            return chosen.cost;
        }
        return isWithin(i, 0, chosen.length - 1) ? chosen.arcs[i] : BAD;
    }

    public int best() {
        refreshPlan();
        return planner.keptWorth;
    }

    public int spent() {
        refreshPlan();
        return planner.keptCost;
    }

    public int plan(int g) {
        if (!net.isGood(g)) {
            return BAD;
        }
        refreshPlan();
        return planner.kept[g];
    }

    public int load(int i) {
        if (!net.isArc(i)) {
            return BAD;
        }
        refreshPlan();
        return planLoads.amounts[i];
    }

    public int price(int i, int d) {
        if (!net.isArc(i) || !isWithin(d, 1, MAX_EXTRA)) {
            return BAD;
        }
        refreshPlan();
        return probe.mostWorthWithWider(net, table, i, d, planner.keptWorth) - planner.keptWorth;
    }

    public int attempt(int g, int k) {
        if (!net.isGood(g) || !isWithin(k, NONE, MAX_WAYS - 1)) {
            return BAD;
        }
        int was = tried[g];
        tried[g] = k;
        return was;
    }

    public int attempted(int what) {
        if (!isWithin(what, 0, 2)) {
            return BAD;
        }
        table.refresh(net);
        if (!areTriedThere()) {
            return NONE;
        }
        if (what == 0) {
            return triedWorth();
        }
        if (what == 1) {
            return triedCost();
        }
        triedLoads.addAll(net, table, tried);
        return triedLoads.firstAbove(net.capacities, net.arcs);
    }

    // ---- rates, flows, cuts

    public int rate(int g, int part) {
        if (!net.isGood(g) || !isWithin(part, 0, 1)) {
            return BAD;
        }
        refreshRates();
        if (rates.bottlenecks[g] == NONE) {
            return NONE;
        }
        Fraction fair = rates.shares[g];
        return (int) (part == 0 ? fair.above : fair.below);
    }

    public int bottleneck(int g) {
        if (!net.isGood(g)) {
            return BAD;
        }
        refreshRates();
        return rates.bottlenecks[g];
    }

    public int more(int g) {
        if (!net.isGood(g)) {
            return BAD;
        }
        refreshPlan();
        return flow.most(net, planLoads, net.origins[g], net.goals[g]);
    }

    public int cut() {
        // The nodes' sets are the numbers below this one, so the first that is found is the least.
        int sets = 1 << net.nodes;
        for (int set = 0; set < sets; set++) {
            if (net.isCut(set)) {
                return set;
            }
        }
        return NONE;
    }

    public int count(int what) {
        switch (what) {
            case 0:
                return net.nodes;
            case 1:
                return net.arcs;
            case 2:
                return net.goods;
            case 3:
                return sumOfFirst(net.capacities, net.arcs);
            case 4:
                return sumOfFirst(net.demands, net.goods);
            case 5:
                return sumOfFirst(net.worths, net.goods);
            default:
                return BAD;
        }
    }

    // ---- helpers

    private void refreshPlan() {
        if (planVersion == net.version) {
            return;
        }
        table.refresh(net);
        planner.findBest(net, table);
        planLoads.addAll(net, table, planner.kept);
        planVersion = net.version;
    }

    private void refreshRates() {
        table.refresh(net);
        rates.refresh(net, table);
    }

    private boolean areTriedThere() {
        for (int g = 0; g < net.goods; g++) {
            if (tried[g] != NONE && !table.lists[g].has(tried[g])) {
                return false;
            }
        }
        return true;
    }

    private int triedWorth() {
        int sum = 0;
        for (int g = 0; g < net.goods; g++) {
            if (tried[g] != NONE) {
                sum += net.worths[g];
            }
        }
        return sum;
    }

    private int triedCost() {
        int sum = 0;
        for (int g = 0; g < net.goods; g++) {
            WayList list = table.lists[g];
            if (list.has(tried[g])) {
                sum += net.demands[g] * list.items[tried[g]].cost;
            }
        }
        return sum;
    }

    private static boolean isWithin(int v, int least, int most) {
        return v >= least && v <= most;
    }

    private static int sumOfFirst(int[] values, int size) {
        int sum = 0;
        for (int i = 0; i < size && i < values.length; i++) {
            sum += values[i];
        }
        return sum;
    }

    /** What has been told: nodes, arcs, goods. */
    private static final class Net {
        int nodes;
        int arcs;
        int goods;
        /** Goes up with every change, so that what was worked out before it is known to be old. */
        int version;
        /** Goes up with those changes alone that can make other ways. */
        int wayVersion;
        final int[] tails = new int[MAX_ARCS];
        final int[] heads = new int[MAX_ARCS];
        final int[] capacities = new int[MAX_ARCS];
        final int[] costs = new int[MAX_ARCS];
        final int[] origins = new int[MAX_GOODS];
        final int[] goals = new int[MAX_GOODS];
        final int[] demands = new int[MAX_GOODS];
        final int[] worths = new int[MAX_GOODS];

        boolean areTwoNodes(int a, int b) {
            return a != b && isWithin(a, 0, nodes - 1) && isWithin(b, 0, nodes - 1);
        }

        boolean isArc(int i) {
            return isWithin(i, 0, arcs - 1);
        }

        boolean isGood(int g) {
            return isWithin(g, 0, goods - 1);
        }

        int addArc(int a, int b, int capacity, int cost) {
            tails[arcs] = a;
            heads[arcs] = b;
            capacities[arcs] = capacity;
            costs[arcs] = cost;
            version++;
            wayVersion++;
            return arcs++;
        }

        int addGood(int a, int b, int demand, int worth) {
            origins[goods] = a;
            goals[goods] = b;
            demands[goods] = demand;
            worths[goods] = worth;
            version++;
            wayVersion++;
            return goods++;
        }

        boolean isCut(int set) {
            int wanted = demandOutOf(set);
            // Most sets are no cuts: the arcs are looked at only as long as the set may still be one.
            for (int i = 0; i < arcs && wanted > 0; i++) {
                if (leadsOut(set, tails[i], heads[i])) {
                    wanted -= capacities[i];
                }
            }
            return wanted > 0;
        }

        private int demandOutOf(int set) {
            int sum = 0;
            for (int g = 0; g < goods; g++) {
                if (leadsOut(set, origins[g], goals[g])) {
                    sum += demands[g];
                }
            }
            return sum;
        }

        private static boolean leadsOut(int set, int a, int b) {
            return (set >> a & 1) == 1 && (set >> b & 1) == 0;
        }
    }

    /** A row of arcs. */
    private static final class Way {
        int length;
        int cost;
        final int[] arcs = new int[MAX_STEPS];

        void copyFrom(int[] trail, int steps, int sum) {
            for (int i = 0; i < steps; i++) {
                arcs[i] = trail[i];
            }
            length = steps;
            cost = sum;
        }

        boolean uses(int arc) {
            for (int i = 0; i < length; i++) {
                if (arcs[i] == arc) {
                    return true;
                }
            }
            return false;
        }
    }

    /** The first ways of one good, in order. */
    private static final class WayList {
        int size;
        final Way[] items = new Way[MAX_WAYS];

        WayList() {
            for (int k = 0; k < MAX_WAYS; k++) {
                items[k] = new Way();
            }
        }

        boolean has(int k) {
            return k >= 0 && k < size;
        }

        /** Ways come in the order of their rows, so one of like cost comes too late to take a place. */
        boolean hasPlaceFor(int cost) {
            return size < MAX_WAYS || cost < items[MAX_WAYS - 1].cost;
        }

        void insert(int[] trail, int steps, int cost) {
            int place = Math.min(size, MAX_WAYS - 1);
            Way spare = items[place];
            while (place > 0 && items[place - 1].cost > cost) {
                items[place] = items[place - 1];
                place--;
            }
            spare.copyFrom(trail, steps, cost);
            items[place] = spare;
            size = Math.min(size + 1, MAX_WAYS);
        }
    }

    /** The ways of all goods. */
    private static final class WayTable {
        final WayList[] lists = new WayList[MAX_GOODS];
        private final int[] trail = new int[MAX_STEPS];
        /** The least cost from each node to the good's end, FAR where none leads there. */
        private final int[] least = new int[MAX_NODES];
        private int wayVersion = NONE;

        WayTable() {
            for (int g = 0; g < MAX_GOODS; g++) {
                lists[g] = new WayList();
            }
        }

        void refresh(Net net) {
            if (wayVersion == net.wayVersion) {
                return;
            }
            for (int g = 0; g < net.goods; g++) {
                lists[g].size = 0;
                measure(net, net.goals[g]);
                walk(net, g, net.origins[g], 1 << net.origins[g], 0, 0);
            }
            wayVersion = net.wayVersion;
        }

        private void measure(Net net, int goal) {
            for (int n = 0; n < MAX_NODES; n++) {
                least[n] = n == goal ? 0 : FAR;
            }
            boolean changed = true;
            for (int round = 0; round < MAX_NODES && changed; round++) {
                changed = false;
                for (int i = 0; i < net.arcs; i++) {
                    int through = net.costs[i] + least[net.heads[i]];
                    if (through < least[net.tails[i]]) {
                        least[net.tails[i]] = through;
                        changed = true;
                    }
                }
            }
        }

        private void walk(Net net, int g, int at, int seen, int steps, int cost) {
            if (at == net.goals[g]) {
                lists[g].insert(trail, steps, cost);
                return;
            }
            if (steps >= MAX_STEPS) {
                return;
            }
            for (int i = 0; i < net.arcs; i++) {
                int next = net.heads[i];
                if (net.tails[i] == at && (seen >> next & 1) == 0 && isWorthwhile(g, next, cost + net.costs[i])) {
                    follow(net, g, i, seen, steps, cost);
                }
            }
        }

        private void follow(Net net, int g, int arc, int seen, int steps, int cost) {
            int next = net.heads[arc];
            trail[steps] = arc;
            walk(net, g, next, seen | 1 << next, steps + 1, cost + net.costs[arc]);
        }

        private boolean isWorthwhile(int g, int next, int cost) {
            return least[next] < FAR && lists[g].hasPlaceFor(cost + least[next]);
        }
    }

    /** What lies on each arc. */
    private static final class Loads {
        final int[] amounts = new int[MAX_ARCS];

        void clear() {
            for (int i = 0; i < MAX_ARCS; i++) {
                amounts[i] = 0;
            }
        }

        void add(Way way, int amount) {
            for (int i = 0; i < way.length; i++) {
                amounts[way.arcs[i]] += amount;
            }
        }

        /** Nothing but the goods' demands along the ways of these numbers. */
        void addAll(Net net, WayTable table, int[] numbers) {
            clear();
            for (int g = 0; g < net.goods; g++) {
                WayList list = table.lists[g];
                if (list.has(numbers[g])) {
                    add(list.items[numbers[g]], net.demands[g]);
                }
            }
        }

        boolean leavesRoomFor(Way way, int amount, int[] limits) {
            for (int i = 0; i < way.length; i++) {
                int arc = way.arcs[i];
                if (amounts[arc] + amount > limits[arc]) {
                    return false;
                }
            }
            return true;
        }

        int firstAbove(int[] limits, int arcs) {
            for (int i = 0; i < arcs; i++) {
                if (amounts[i] > limits[i]) {
                    return i;
                }
            }
            return NONE;
        }
    }

    /** Looks through the plans that fit, in their order, for the best one. */
    private static final class Planner {
        final int[] kept = new int[MAX_GOODS];
        int keptWorth;
        int keptCost;
        private final int[] chosen = new int[MAX_GOODS];
        private final int[] limits = new int[MAX_ARCS];
        /** The worth that the goods from each one on could still bring. */
        private final int[] hopes = new int[MAX_GOODS + 1];
        private final Loads loads = new Loads();

        void findBest(Net net, WayTable table) {
            prepare(net, table);
            keptWorth = NONE;
            keptCost = 0;
            choose(net, table, 0, 0, 0);
        }

        /** Starts from a worth that is reached anyway, so that only plans of more worth are looked for. */
        int mostWorthWithWider(Net net, WayTable table, int arc, int extra, int reached) {
            prepare(net, table);
            limits[arc] += extra;
            keptWorth = reached;
            keptCost = 0;
            choose(net, table, 0, 0, 0);
            return keptWorth;
        }

        private void prepare(Net net, WayTable table) {
            loads.clear();
            for (int i = 0; i < net.arcs; i++) {
                limits[i] = net.capacities[i];
            }
            hopes[net.goods] = 0;
            for (int g = net.goods - 1; g >= 0; g--) {
                hopes[g] = hopes[g + 1] + (table.lists[g].size > 0 ? net.worths[g] : 0);
            }
        }

        private void choose(Net net, WayTable table, int g, int worth, int cost) {
            if (!mayBeBetter(worth + hopes[g], cost)) {
                return;
            }
            if (g >= net.goods) {
                keep(net.goods, worth, cost);
                return;
            }
            WayList list = table.lists[g];
            for (int k = 0; k < list.size; k++) {
                if (loads.leavesRoomFor(list.items[k], net.demands[g], limits)) {
                    serve(net, table, g, k, worth, cost);
                }
            }
            leaveOut(net, table, g, worth, cost);
        }

        private void serve(Net net, WayTable table, int g, int k, int worth, int cost) {
            Way way = table.lists[g].items[k];
            int demand = net.demands[g];
            chosen[g] = k;
            loads.add(way, demand);
            choose(net, table, g + 1, worth + net.worths[g], cost + demand * way.cost);
            loads.add(way, -demand);
        }

        private void leaveOut(Net net, WayTable table, int g, int worth, int cost) {
            chosen[g] = NONE;
            choose(net, table, g + 1, worth, cost);
        }

        /** Of like plans the first one stays, so a later one has to be better, not as good. */
        private boolean mayBeBetter(int worth, int cost) {
            return worth > keptWorth || worth == keptWorth && cost < keptCost;
        }

        private void keep(int goods, int worth, int cost) {
            for (int g = 0; g < goods; g++) {
                kept[g] = chosen[g];
            }
            keptWorth = worth;
            keptCost = cost;
        }
    }

    /** A fraction without common factors, never below 0, with its lower part above 0. */
    private static final class Fraction {
        long above;
        long below = 1;

        void set(long top, long bottom) {
            long common = commonFactor(top, bottom);
            if (common > 0) {
                above = top / common;
                below = bottom / common;
            }
        }

        void subtract(Fraction other) {
            set(above * other.below - other.above * below, below * other.below);
        }

        boolean isLessThan(Fraction other) {
            return above * other.below < other.above * below;
        }

        private static long commonFactor(long a, long b) {
            long high = a;
            long low = b;
            // Euclid's steps on longs are fewer than a hundred.
            for (int step = 0; step < 100 && low != 0; step++) {
                long rest = high % low;
                high = low;
                low = rest;
            }
            return high;
        }
    }

    /** The fair rates of all goods along their ways 0, and the arc that binds each. */
    private static final class FairRates {
        final Fraction[] shares = new Fraction[MAX_GOODS];
        /** NONE for a good that has no way. */
        final int[] bottlenecks = new int[MAX_GOODS];
        private final boolean[] open = new boolean[MAX_GOODS];
        private final Fraction share = new Fraction();
        private final Fraction tightest = new Fraction();
        private int version = NONE;

        FairRates() {
            for (int g = 0; g < MAX_GOODS; g++) {
                shares[g] = new Fraction();
            }
        }

        void refresh(Net net, WayTable table) {
            if (version == net.version) {
                return;
            }
            for (int g = 0; g < net.goods; g++) {
                open[g] = table.lists[g].size > 0;
                bottlenecks[g] = NONE;
            }
            // Each round closes a good at least.
            for (int round = 0; round < net.goods; round++) {
                int arc = findTightest(net, table);
                if (arc == NONE) {
                    break;
                }
                closeAlong(net, table, arc);
            }
            version = net.version;
        }

        private int findTightest(Net net, WayTable table) {
            int found = NONE;
            for (int i = 0; i < net.arcs; i++) {
                int users = openUsers(net, table, i);
                if (users > 0) {
                    setShare(net, table, i, users);
                    if (found == NONE || share.isLessThan(tightest)) {
                        found = i;
                        tightest.set(share.above, share.below);
                    }
                }
            }
            return found;
        }

        private int openUsers(Net net, WayTable table, int arc) {
            int users = 0;
            for (int g = 0; g < net.goods; g++) {
                if (open[g] && table.lists[g].items[0].uses(arc)) {
                    users++;
                }
            }
            return users;
        }

        private void setShare(Net net, WayTable table, int arc, int users) {
            share.set(net.capacities[arc], 1);
            for (int g = 0; g < net.goods; g++) {
                boolean isClosed = !open[g] && table.lists[g].size > 0;
                if (isClosed && table.lists[g].items[0].uses(arc)) {
                    share.subtract(shares[g]);
                }
            }
            share.set(share.above, share.below * users);
        }

        private void closeAlong(Net net, WayTable table, int arc) {
            for (int g = 0; g < net.goods; g++) {
                if (open[g] && table.lists[g].items[0].uses(arc)) {
                    open[g] = false;
                    bottlenecks[g] = arc;
                    shares[g].set(tightest.above, tightest.below);
                }
            }
        }
    }

    /** The most that can flow through what a plan leaves of the capacities. */
    private static final class Flow {
        /** Each round brings one more at least, and no more than all capacities together can flow. */
        private static final int MAX_ROUNDS = MAX_ARCS * MAX_CAPACITY + 1;

        /** What may still go along arc i (at 2 i), and what may be taken back from it (at 2 i + 1). */
        private final int[] left = new int[2 * MAX_ARCS];
        /** By which place of left a node was reached, NONE where the flow begins. */
        private final int[] cameBy = new int[MAX_NODES];
        private final int[] queue = new int[MAX_NODES];

        int most(Net net, Loads loads, int origin, int goal) {
            for (int i = 0; i < net.arcs; i++) {
                left[2 * i] = net.capacities[i] - loads.amounts[i];
                left[2 * i + 1] = 0;
            }
            int sum = 0;
            for (int round = 0; round < MAX_ROUNDS && reaches(net, origin, goal); round++) {
                sum += push(net, goal);
            }
            return sum;
        }

        private boolean reaches(Net net, int origin, int goal) {
            int reached = 1 << origin;
            int waiting = 1;
            queue[0] = origin;
            cameBy[origin] = NONE;
            for (int q = 0; q < waiting && q < MAX_NODES; q++) {
                for (int e = 0; e < 2 * net.arcs; e++) {
                    int next = startOf(net, e ^ 1);
                    if (left[e] > 0 && startOf(net, e) == queue[q] && (reached >> next & 1) == 0) {
                        reached |= 1 << next;
                        cameBy[next] = e;
                        queue[waiting++] = next;
                    }
                }
            }
            return (reached >> goal & 1) == 1;
        }

        private int push(Net net, int goal) {
            int amount = MAX_CAPACITY;
            int e = cameBy[goal];
            for (int n = 0; n < MAX_NODES && e != NONE; n++) {
                amount = Math.min(amount, left[e]);
                e = cameBy[startOf(net, e)];
            }
            e = cameBy[goal];
            for (int n = 0; n < MAX_NODES && e != NONE; n++) {
                left[e] -= amount;
                left[e ^ 1] += amount;
                e = cameBy[startOf(net, e)];
            }
            return amount;
        }

        private static int startOf(Net net, int e) {
            return (e & 1) == 0 ? net.tails[e >> 1] : net.heads[e >> 1];
        }
    }
}
