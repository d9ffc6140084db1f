/** Each promise of the document, with answers worked out by hand. */
public final class PromiseTest {
    private static final int NONE = -1, BAD = -2, FULL = -3;
    private static final int LOW = Integer.MIN_VALUE, HIGH = Integer.MAX_VALUE;
    private static final Check check = new Check("PromiseTest");

    public static void main(String[] args) {
        promise1NewObject();
        promise2Node();
        promise3Arc();
        promise3And6BadGoesBeforeFull();
        promise4Capacity();
        promise5Cost();
        promise6Good();
        promise7Demand();
        promise8Worth();
        promise9Ways();
        promise10Way();
        promise10OrderOfLikeCosts();
        promise10NoNodeTwice();
        promise10LongestWay();
        promise11To14BestPlan();
        promise11TiesOfPlans();
        promise11WorthBeforeCost();
        promise11BoundsOfSums();
        promise15Price();
        promise16And17ByHand();
        promise17WaysThatGo();
        promise18And19Rates();
        promise18RatesInRounds();
        promise19LeastNumberOfLikeArcs();
        promise20More();
        promise20TakesBack();
        promise21Cut();
        promise22Count();
        lastCalls();
        check.end();
    }

    private static ManyGoods withNodes(int nodes) {
        ManyGoods x = new ManyGoods();
        for (int n = 0; n < nodes; n++) {
            check.due("node()", x.node(), n);
        }
        return x;
    }

    /** Two ways from 0 to 3, through 1 (arcs 0, 1) and through 2 (arcs 2, 3). */
    private static ManyGoods diamond() {
        ManyGoods x = withNodes(4);
        check.due("arc(0, 1, 10, 1)", x.arc(0, 1, 10, 1), 0);
        check.due("arc(1, 3, 10, 1)", x.arc(1, 3, 10, 1), 1);
        check.due("arc(0, 2, 10, 2)", x.arc(0, 2, 10, 2), 2);
        check.due("arc(2, 3, 10, 2)", x.arc(2, 3, 10, 2), 3);
        return x;
    }

    private static void counts(ManyGoods x, int nodes, int arcs, int goods) {
        check.due("count(0)", x.count(0), nodes);
        check.due("count(1)", x.count(1), arcs);
        check.due("count(2)", x.count(2), goods);
    }

    private static void way(ManyGoods x, int g, int k, int cost, int... arcs) {
        String name = "way(" + g + ", " + k + ", ";
        check.due(name + "-2)", x.way(g, k, -2), cost);
        check.due(name + "-1)", x.way(g, k, -1), arcs.length);
        for (int i = 0; i < arcs.length; i++) {
            check.due(name + i + ")", x.way(g, k, i), arcs[i]);
        }
        check.due(name + arcs.length + ")", x.way(g, k, arcs.length), BAD);
    }

    private static void plans(ManyGoods x, int worth, int cost, int... ways) {
        check.due("best()", x.best(), worth);
        check.due("spent()", x.spent(), cost);
        for (int g = 0; g < ways.length; g++) {
            check.due("plan(" + g + ")", x.plan(g), ways[g]);
        }
    }

    private static void rate(ManyGoods x, int g, int above, int below, int arc) {
        check.due("rate(" + g + ", 0)", x.rate(g, 0), above);
        check.due("rate(" + g + ", 1)", x.rate(g, 1), below);
        check.due("bottleneck(" + g + ")", x.bottleneck(g), arc);
    }

    private static void promise1NewObject() {
        ManyGoods x = new ManyGoods();
        counts(x, 0, 0, 0);
        for (int what = 3; what <= 5; what++) {
            check.due("new: count(" + what + ")", x.count(what), 0);
        }
        check.due("new: best()", x.best(), 0);
        check.due("new: spent()", x.spent(), 0);
        check.due("new: cut()", x.cut(), NONE);
        check.due("new: attempted(0)", x.attempted(0), 0);
        check.due("new: attempted(1)", x.attempted(1), 0);
        check.due("new: attempted(2)", x.attempted(2), NONE);
        check.due("new: arc", x.arc(0, 1, 1, 1), BAD);
        check.due("new: good", x.good(0, 1, 1, 1), BAD);
        ManyGoods other = new ManyGoods();
        check.due("first: node()", x.node(), 0);
        check.due("other: count(0)", other.count(0), 0);
    }

    private static void promise2Node() {
        ManyGoods x = withNodes(10);
        check.due("node() at 10", x.node(), FULL);
        check.due("node() at 10 again", x.node(), FULL);
        check.due("count(0) at 10", x.count(0), 10);
        check.due("arc to the last node", x.arc(0, 9, 1, 1), 0);
        check.due("arc behind the last node", x.arc(0, 10, 1, 1), BAD);
    }

    private static void promise3Arc() {
        ManyGoods x = withNodes(3);
        int[][] bad = {
            {-1, 0, 1, 1}, {0, -1, 1, 1}, {3, 0, 1, 1}, {0, 3, 1, 1}, {1, 1, 1, 1}, {LOW, 0, 1, 1}, {0, HIGH, 1, 1},
            {0, 1, -1, 1}, {0, 1, 1001, 1}, {0, 1, LOW, 1}, {0, 1, HIGH, 1},
            {0, 1, 1, -1}, {0, 1, 1, 101}, {0, 1, 1, LOW}, {0, 1, 1, HIGH}, {3, 3, 1, 1}, {-1, -1, 1, 1}
        };
        for (int[] b : bad) {
            check.due("bad arc", x.arc(b[0], b[1], b[2], b[3]), BAD);
        }
        counts(x, 3, 0, 0);
        check.due("arc(0, 1, 0, 0)", x.arc(0, 1, 0, 0), 0);
        check.due("arc(1, 0, 1000, 100)", x.arc(1, 0, 1000, 100), 1);
        for (int i = 2; i < 24; i++) {
            check.due("another arc from 0 to 1", x.arc(0, 1, 1, 1), i);
        }
        check.due("arc at 24", x.arc(0, 2, 1, 1), FULL);
        check.due("count(1) at 24", x.count(1), 24);
        check.due("count(3) at 24", x.count(3), 1022);
        check.due("capacity(23, 5)", x.capacity(23, 5), 1);
        check.due("capacity(24, 5)", x.capacity(24, 5), BAD);
    }

    /** The document names BAD ahead of FULL. */
    private static void promise3And6BadGoesBeforeFull() {
        ManyGoods x = withNodes(2);
        for (int i = 0; i < 24; i++) {
            x.arc(0, 1, 1, 1);
        }
        for (int g = 0; g < 6; g++) {
            x.good(0, 1, 1, 1);
        }
        check.due("bad arc at 24", x.arc(0, 0, 1, 1), BAD);
        check.due("bad capacity at 24", x.arc(0, 1, 1001, 1), BAD);
        check.due("bad good at 6", x.good(0, 2, 1, 1), BAD);
        check.due("bad demand at 6", x.good(0, 1, 0, 1), BAD);
        check.due("arc at 24", x.arc(1, 0, 1, 1), FULL);
        check.due("good at 6", x.good(1, 0, 1, 1), FULL);
        counts(x, 2, 24, 6);
    }

    private static void promise4Capacity() {
        ManyGoods x = diamond();
        check.due("good", x.good(0, 3, 11, 7), 0);
        for (int i : new int[] {-1, 4, 23, 24, LOW, HIGH}) {
            check.due("capacity of no arc " + i, x.capacity(i, 1), BAD);
        }
        for (int v : new int[] {-1, 1001, LOW, HIGH}) {
            check.due("bad capacity " + v, x.capacity(0, v), BAD);
        }
        check.due("count(3) as before", x.count(3), 40);
        check.due("best() before", x.best(), 0);
        check.due("capacity(0, 1000)", x.capacity(0, 1000), 10);
        check.due("capacity(1, 11)", x.capacity(1, 11), 10);
        check.due("best() behind", x.best(), 7);
        check.due("capacity(0, 0)", x.capacity(0, 0), 1000);
        check.due("capacity(0, 5)", x.capacity(0, 5), 0);
        check.due("best() at last", x.best(), 0);
        check.due("ways ask for no capacity", x.ways(0), 2);
        check.due("count(3)", x.count(3), 36);
    }

    private static void promise5Cost() {
        ManyGoods x = diamond();
        check.due("good", x.good(0, 3, 2, 7), 0);
        for (int i : new int[] {-1, 4, 24, LOW, HIGH}) {
            check.due("cost of no arc " + i, x.cost(i, 1), BAD);
        }
        for (int v : new int[] {-1, 101, LOW, HIGH}) {
            check.due("bad cost " + v, x.cost(0, v), BAD);
        }
        way(x, 0, 0, 2, 0, 1);
        way(x, 0, 1, 4, 2, 3);
        check.due("attempt(0, 0)", x.attempt(0, 0), NONE);
        check.due("attempted(1) before", x.attempted(1), 4);
        check.due("cost(0, 100)", x.cost(0, 100), 1);
        way(x, 0, 0, 4, 2, 3);
        way(x, 0, 1, 101, 0, 1);
        check.due("way 0 stays tried", x.attempted(1), 8);
        check.due("spent()", x.spent(), 8);
        check.due("attempt(0, 1)", x.attempt(0, 1), 0);
        check.due("cost(0, 0)", x.cost(0, 0), 100);
        check.due("way 1 stays tried", x.attempted(1), 8);
        check.due("cost(0, 3)", x.cost(0, 3), 0);
        way(x, 0, 0, 4, 0, 1);
    }

    private static void promise6Good() {
        ManyGoods x = withNodes(3);
        int[][] bad = {
            {-1, 0, 1, 1}, {0, -1, 1, 1}, {3, 0, 1, 1}, {0, 3, 1, 1}, {1, 1, 1, 1}, {LOW, 0, 1, 1}, {0, HIGH, 1, 1},
            {0, 1, 0, 1}, {0, 1, -1, 1}, {0, 1, 1001, 1}, {0, 1, LOW, 1}, {0, 1, HIGH, 1},
            {0, 1, 1, -1}, {0, 1, 1, 1001}, {0, 1, 1, LOW}, {0, 1, 1, HIGH}
        };
        for (int[] b : bad) {
            check.due("bad good", x.good(b[0], b[1], b[2], b[3]), BAD);
        }
        counts(x, 3, 0, 0);
        check.due("good(0, 1, 1, 0)", x.good(0, 1, 1, 0), 0);
        check.due("good(1, 0, 1000, 1000)", x.good(1, 0, 1000, 1000), 1);
        for (int g = 2; g < 6; g++) {
            check.due("a like good", x.good(0, 1, 1, 1), g);
        }
        check.due("good at 6", x.good(0, 2, 1, 1), FULL);
        counts(x, 3, 0, 6);
        check.due("count(4)", x.count(4), 1005);
        check.due("count(5)", x.count(5), 1004);
    }

    private static void promise7Demand() {
        ManyGoods x = diamond();
        check.due("good", x.good(0, 3, 10, 7), 0);
        for (int g : new int[] {-1, 1, 6, LOW, HIGH}) {
            check.due("demand of no good " + g, x.demand(g, 1), BAD);
        }
        for (int v : new int[] {0, -1, 1001, LOW, HIGH}) {
            check.due("bad demand " + v, x.demand(0, v), BAD);
        }
        plans(x, 7, 20, 0);
        check.due("demand(0, 1000)", x.demand(0, 1000), 10);
        plans(x, 0, 0, NONE);
        check.due("demand(0, 1)", x.demand(0, 1), 1000);
        plans(x, 7, 2, 0);
        check.due("demand(0, 3)", x.demand(0, 3), 1);
        check.due("count(4)", x.count(4), 3);
    }

    private static void promise8Worth() {
        ManyGoods x = diamond();
        check.due("good", x.good(0, 3, 10, 7), 0);
        for (int g : new int[] {-1, 1, 6, LOW, HIGH}) {
            check.due("worth of no good " + g, x.worth(g, 1), BAD);
        }
        for (int v : new int[] {-1, 1001, LOW, HIGH}) {
            check.due("bad worth " + v, x.worth(0, v), BAD);
        }
        check.due("worth(0, 1000)", x.worth(0, 1000), 7);
        plans(x, 1000, 20, 0);
        check.due("worth(0, 0)", x.worth(0, 0), 1000);
        plans(x, 0, 0, NONE);
        check.due("worth(0, 4)", x.worth(0, 4), 0);
        check.due("count(5)", x.count(5), 4);
    }

    private static void promise9Ways() {
        ManyGoods x = withNodes(3);
        check.due("good(0, 1)", x.good(0, 1, 1, 1), 0);
        check.due("good(1, 0)", x.good(1, 0, 1, 1), 1);
        for (int g : new int[] {-1, 2, 5, 6, LOW, HIGH}) {
            check.due("ways of no good " + g, x.ways(g), BAD);
        }
        check.due("ways(0) of none", x.ways(0), 0);
        for (int i = 0; i < 7; i++) {
            check.due("arc from 0 to 1", x.arc(0, 1, 0, 7 - i), i);
            check.due("ways(0)", x.ways(0), Math.min(i + 1, 5));
        }
        check.due("ways(1): arcs lead one way", x.ways(1), 0);
        way(x, 0, 0, 1, 6);
        way(x, 0, 4, 5, 2);
        check.due("arc from 0 to 2", x.arc(0, 2, 0, 0), 7);
        check.due("arc from 2 to 1", x.arc(2, 1, 0, 0), 8);
        way(x, 0, 0, 0, 7, 8);
        way(x, 0, 4, 4, 3);
    }

    private static void promise10Way() {
        ManyGoods x = diamond();
        check.due("good", x.good(0, 3, 1, 1), 0);
        check.due("good without a way", x.good(3, 0, 1, 1), 1);
        way(x, 0, 0, 2, 0, 1);
        way(x, 0, 1, 4, 2, 3);
        for (int i : new int[] {-3, 2, 9, LOW, HIGH}) {
            check.due("no arc " + i + " of a way", x.way(0, 0, i), BAD);
        }
        for (int k : new int[] {-1, 2, 4, 5, LOW, HIGH}) {
            check.due("no way " + k, x.way(0, k, 0), BAD);
            check.due("length of no way " + k, x.way(0, k, -1), BAD);
            check.due("cost of no way " + k, x.way(0, k, -2), BAD);
        }
        for (int g : new int[] {-1, 1, 2, 6, LOW, HIGH}) {
            check.due("way of no good " + g, x.way(g, 0, -1), BAD);
        }
    }

    private static void promise10OrderOfLikeCosts() {
        ManyGoods x = withNodes(4);
        x.arc(1, 3, 1, 1);
        x.arc(2, 3, 1, 1);
        x.arc(0, 3, 1, 2);
        x.arc(0, 2, 1, 1);
        x.arc(0, 1, 1, 1);
        x.arc(1, 2, 1, 0);
        x.arc(0, 3, 1, 0);
        x.good(0, 3, 1, 1);
        check.due("ways(0)", x.ways(0), 5);
        way(x, 0, 0, 0, 6);
        way(x, 0, 1, 2, 2);
        way(x, 0, 2, 2, 3, 1);
        way(x, 0, 3, 2, 4, 0);
        way(x, 0, 4, 2, 4, 5, 1);
        x.cost(4, 0);
        way(x, 0, 1, 1, 4, 0);
        way(x, 0, 2, 1, 4, 5, 1);
        way(x, 0, 3, 2, 2);
    }

    private static void promise10NoNodeTwice() {
        ManyGoods x = withNodes(4);
        x.arc(0, 1, 1, 0);
        x.arc(1, 0, 1, 0);
        x.arc(1, 2, 1, 0);
        x.arc(2, 1, 1, 0);
        x.arc(2, 3, 1, 0);
        x.arc(3, 2, 1, 0);
        x.good(0, 2, 1, 1);
        check.due("ways(0)", x.ways(0), 1);
        way(x, 0, 0, 0, 0, 2);
    }

    private static void promise10LongestWay() {
        ManyGoods x = withNodes(10);
        for (int n = 0; n < 9; n++) {
            x.arc(n, n + 1, 1000, 100);
        }
        x.good(0, 9, 1000, 1000);
        way(x, 0, 0, 900, 0, 1, 2, 3, 4, 5, 6, 7, 8);
        plans(x, 1000, 900000, 0);
        check.due("ways(0)", x.ways(0), 1);
        rate(x, 0, 1000, 1, 0);
        check.due("load(8)", x.load(8), 1000);
    }

    private static void promise11To14BestPlan() {
        ManyGoods x = diamond();
        check.due("good 0", x.good(0, 3, 6, 5), 0);
        check.due("good 1", x.good(0, 3, 5, 5), 1);
        check.due("good 2", x.good(0, 1, 4, 1), 2);
        check.due("good 3, no way", x.good(3, 0, 1, 1000), 3);
        // 0 and 1 can't share an arc (6 + 5); beside 2 on arc 0 both have place (6 + 4, 5 + 4).
        // 0 on way 0: 6 * 2 + 5 * 4 + 4 = 36; 0 on way 1: 6 * 4 + 5 * 2 + 4 = 38.
        plans(x, 11, 36, 0, 1, 0, NONE);
        int[] loads = {10, 6, 5, 5};
        for (int i = 0; i < 4; i++) {
            check.due("load(" + i + ")", x.load(i), loads[i]);
        }
        for (int g : new int[] {-1, 4, 5, 6, LOW, HIGH}) {
            check.due("plan of no good " + g, x.plan(g), BAD);
        }
        for (int i : new int[] {-1, 4, 23, 24, LOW, HIGH}) {
            check.due("load of no arc " + i, x.load(i), BAD);
        }
        x.capacity(0, 9);
        plans(x, 11, 38, 1, 0, 0, NONE);
        x.capacity(0, 8);
        plans(x, 10, 32, 0, 1, NONE, NONE);
    }

    /** Of plans of like worth and cost: lesser ways of the first goods, none behind way 4. */
    private static void promise11TiesOfPlans() {
        ManyGoods x = withNodes(2);
        x.arc(0, 1, 1, 3);
        x.arc(0, 1, 1, 3);
        x.good(0, 1, 1, 2);
        x.good(0, 1, 1, 2);
        x.good(0, 1, 1, 2);
        plans(x, 4, 6, 0, 1, NONE);
        ManyGoods free = withNodes(2);
        free.arc(0, 1, 1, 0);
        free.good(0, 1, 1, 0);
        free.good(0, 1, 1, 0);
        plans(free, 0, 0, 0, NONE);
        check.due("load(0)", free.load(0), 1);
        free.cost(0, 1);
        plans(free, 0, 0, NONE, NONE);
        free.worth(1, 1);
        plans(free, 1, 1, NONE, 0);
    }

    private static void promise11WorthBeforeCost() {
        ManyGoods x = withNodes(2);
        x.arc(0, 1, 10, 100);
        x.good(0, 1, 10, 5);
        x.good(0, 1, 5, 3);
        x.good(0, 1, 5, 3);
        plans(x, 6, 1000, NONE, 0, 0);
        x.worth(0, 6);
        // Both bring 6 and spend 1000: good 0 on way 0 is the first.
        plans(x, 6, 1000, 0, NONE, NONE);
        x.demand(1, 4);
        plans(x, 6, 900, NONE, 0, 0);
    }

    private static void promise11BoundsOfSums() {
        ManyGoods x = withNodes(7);
        for (int n = 0; n < 6; n++) {
            x.arc(n, n + 1, 1000, 100);
            x.good(n, n + 1, 1000, 1000);
        }
        plans(x, 6000, 600000, 0, 0, 0, 0, 0, 0);
        check.due("cut()", x.cut(), NONE);
        check.due("load(5)", x.load(5), 1000);
        x.capacity(5, 999);
        plans(x, 5000, 500000, 0, 0, 0, 0, 0, NONE);
        check.due("price(5, 1)", x.price(5, 1), 1000);
    }

    private static void promise15Price() {
        ManyGoods x = withNodes(2);
        x.arc(0, 1, 4, 1);
        x.good(0, 1, 4, 6);
        x.good(0, 1, 3, 5);
        x.good(0, 1, 1000, 9);
        int[][] rows = {{1, 0}, {2, 0}, {3, 5}, {4, 5}, {995, 5}, {996, 5}, {999, 8}, {1000, 9}};
        // With 1000 room 2 alone brings 9, less than 11; with 1003 2 and 1 bring 14, with 1004 2 and 0 bring 15.
        for (int[] row : rows) {
            check.due("price(0, " + row[0] + ")", x.price(0, row[0]), row[1]);
        }
        for (int d : new int[] {0, -1, 1001, LOW, HIGH}) {
            check.due("bad d " + d, x.price(0, d), BAD);
        }
        for (int i : new int[] {-1, 1, 24, LOW, HIGH}) {
            check.due("price of no arc " + i, x.price(i, 1), BAD);
        }
        plans(x, 6, 4, 0, NONE, NONE);
        check.due("load(0) as before", x.load(0), 4);
        check.due("count(3) as before", x.count(3), 4);
        x.capacity(0, 1000);
        check.due("price beyond 1000", x.price(0, 7), 9);
        check.due("price of all", x.price(0, 1000), 9);
    }

    private static void promise16And17ByHand() {
        ManyGoods x = diamond();
        x.good(0, 3, 6, 5);
        x.good(0, 3, 5, 7);
        for (int g : new int[] {-1, 2, 5, 6, LOW, HIGH}) {
            check.due("attempt of no good " + g, x.attempt(g, 0), BAD);
        }
        for (int k : new int[] {-2, 5, LOW, HIGH}) {
            check.due("attempt of no way " + k, x.attempt(0, k), BAD);
        }
        for (int what : new int[] {-1, 3, LOW, HIGH}) {
            check.due("attempted(" + what + ")", x.attempted(what), BAD);
        }
        check.due("attempt(0, -1)", x.attempt(0, -1), NONE);
        check.due("attempt(0, 1)", x.attempt(0, 1), NONE);
        attempted(x, 5, 24, NONE);
        check.due("attempt(1, 1)", x.attempt(1, 1), NONE);
        attempted(x, 12, 44, 2);
        x.capacity(2, 11);
        attempted(x, 12, 44, 3);
        x.capacity(3, 11);
        attempted(x, 12, 44, NONE);
        x.demand(0, 7);
        x.worth(0, 100);
        attempted(x, 107, 48, 2);
        check.due("attempt(0, 0)", x.attempt(0, 0), 1);
        attempted(x, 107, 34, NONE);
        check.due("attempt(1, -1)", x.attempt(1, -1), 1);
        attempted(x, 100, 14, NONE);
        check.due("attempt(1, -1) again", x.attempt(1, -1), NONE);
        check.due("attempt(0, 4)", x.attempt(0, 4), 0);
        check.due("attempt(0, -1)", x.attempt(0, -1), 4);
        attempted(x, 0, 0, NONE);
    }

    private static void attempted(ManyGoods x, int worth, int cost, int arc) {
        check.due("attempted(0)", x.attempted(0), worth);
        check.due("attempted(1)", x.attempted(1), cost);
        check.due("attempted(2)", x.attempted(2), arc);
    }

    private static void promise17WaysThatGo() {
        ManyGoods x = diamond();
        x.good(0, 3, 60, 5);
        x.attempt(0, 2);
        for (int what = 0; what <= 2; what++) {
            check.due("way 2 is not there: attempted(" + what + ")", x.attempted(what), NONE);
        }
        check.due("attempted(3) is bad first", x.attempted(3), BAD);
        x.arc(0, 3, 1, 50);
        attempted(x, 5, 3000, 4);
        x.good(3, 0, 1, 1);
        attempted(x, 5, 3000, 4);
        x.attempt(1, 0);
        attempted(x, NONE, NONE, NONE);
        x.arc(3, 0, 1, 1);
        attempted(x, 6, 3001, 4);
    }

    private static void promise18And19Rates() {
        ManyGoods x = withNodes(4);
        x.arc(0, 1, 10, 1);
        x.arc(1, 2, 4, 1);
        x.arc(2, 3, 6, 1);
        x.good(0, 1, 1000, 0);
        x.good(0, 2, 1, 1);
        x.good(0, 3, 1, 1);
        x.good(2, 3, 1, 1);
        x.good(3, 0, 1, 1);
        // Arc 1: 4 / 2 = 2 is least (10 / 3, 6 / 2); then arc 2: 6 - 2 = 4; arc 0: 10 - 4 = 6.
        rate(x, 1, 2, 1, 1);
        rate(x, 2, 2, 1, 1);
        rate(x, 3, 4, 1, 2);
        rate(x, 0, 6, 1, 0);
        rate(x, 4, NONE, NONE, NONE);
        for (int g : new int[] {-1, 5, 6, LOW, HIGH}) {
            check.due("rate of no good " + g, x.rate(g, 0), BAD);
            check.due("bottleneck of no good " + g, x.bottleneck(g), BAD);
        }
        for (int part : new int[] {-1, 2, LOW, HIGH}) {
            check.due("bad part " + part, x.rate(0, part), BAD);
            check.due("bad part without a way " + part, x.rate(4, part), BAD);
        }
        x.capacity(1, 0);
        rate(x, 1, 0, 1, 1);
        rate(x, 2, 0, 1, 1);
        rate(x, 0, 10, 1, 0);
        rate(x, 3, 6, 1, 2);
        x.capacity(1, 6);
        // Arcs 1 and 2: 6 / 2 = 3, arc 0: 10 / 3.
        rate(x, 1, 3, 1, 1);
        rate(x, 2, 3, 1, 1);
        rate(x, 3, 3, 1, 2);
        rate(x, 0, 4, 1, 0);
    }

    private static void promise18RatesInRounds() {
        ManyGoods x = withNodes(4);
        x.arc(0, 1, 10, 1);
        x.arc(1, 2, 999, 1);
        x.arc(2, 3, 1000, 1);
        x.good(0, 3, 1, 1);
        x.good(0, 2, 1, 1);
        x.good(0, 1, 1, 1);
        x.good(1, 3, 1, 1);
        x.good(1, 2, 1, 1);
        x.good(2, 3, 1, 1);
        // Arc 0: 10 / 3 for 0, 1, 2. Arc 1: (999 - 20 / 3) / 2 = 2977 / 6 for 3, 4; arc 2: 1000 - 10 / 3 - 2977 / 6.
        rate(x, 0, 10, 3, 0);
        rate(x, 1, 10, 3, 0);
        rate(x, 2, 10, 3, 0);
        rate(x, 3, 2977, 6, 1);
        rate(x, 4, 2977, 6, 1);
        rate(x, 5, 1001, 2, 2);
    }

    private static void promise19LeastNumberOfLikeArcs() {
        ManyGoods x = withNodes(4);
        x.arc(2, 3, 5, 1);
        x.arc(1, 2, 5, 1);
        x.arc(0, 1, 5, 1);
        x.good(0, 3, 1, 1);
        rate(x, 0, 5, 1, 0);
        x.capacity(0, 6);
        rate(x, 0, 5, 1, 1);
        x.good(0, 1, 1, 1);
        rate(x, 0, 5, 2, 2);
        rate(x, 1, 5, 2, 2);
        // Rates go along way 0 alone, and ask for no demand.
        x.arc(0, 1, 1, 0);
        rate(x, 0, 1, 2, 3);
        x.demand(0, 900);
        rate(x, 1, 1, 2, 3);
    }

    private static void promise20More() {
        ManyGoods x = diamond();
        x.good(0, 3, 6, 5);
        x.good(3, 0, 1, 1);
        for (int g : new int[] {-1, 2, 6, LOW, HIGH}) {
            check.due("more of no good " + g, x.more(g), BAD);
        }
        check.due("more(0)", x.more(0), 14);
        check.due("more(1)", x.more(1), 0);
        x.demand(0, 11);
        check.due("more(0) beside no plan", x.more(0), 20);
        x.capacity(0, 0);
        check.due("more(0) through 2", x.more(0), 10);
        x.capacity(2, 1000);
        x.capacity(3, 1000);
        check.due("more(0) beside 11", x.more(0), 989);
        check.due("more(0) changes nothing", x.more(0), 989);
        check.due("load(2)", x.load(2), 11);
    }

    private static void promise20TakesBack() {
        ManyGoods x = withNodes(4);
        // The first way found may go 0 - 1 - 2 - 3 and has to be taken back.
        x.arc(1, 2, 1, 0);
        x.arc(0, 1, 1, 9);
        x.arc(0, 2, 1, 9);
        x.arc(1, 3, 1, 9);
        x.arc(2, 3, 1, 9);
        x.good(0, 3, 2, 1);
        check.due("more(0)", x.more(0), 2);
        ManyGoods wide = withNodes(2);
        for (int i = 0; i < 24; i++) {
            wide.arc(0, 1, 1000, 0);
        }
        wide.good(0, 1, 1000, 1);
        check.due("more(0) of 24 arcs", wide.more(0), 23000);
        // Longer than the shortest ways: 0 - 1 - 2 - 5 and 0 - 3 - 4 - 5, crossed by 1 - 4.
        ManyGoods far = withNodes(8);
        far.arc(1, 4, 3, 0);
        far.arc(0, 1, 3, 0);
        far.arc(1, 6, 3, 0);
        far.arc(6, 2, 3, 0);
        far.arc(2, 5, 3, 0);
        far.arc(0, 3, 3, 0);
        far.arc(3, 7, 3, 0);
        far.arc(7, 4, 3, 0);
        far.arc(4, 5, 3, 0);
        far.good(0, 5, 1000, 1);
        check.due("more(0) that takes back", far.more(0), 6);
    }

    private static void promise21Cut() {
        ManyGoods x = withNodes(3);
        check.due("cut() without goods", x.cut(), NONE);
        x.arc(0, 1, 5, 1);
        x.arc(1, 2, 5, 1);
        x.good(0, 1, 5, 1);
        check.due("cut() at the capacity", x.cut(), NONE);
        x.demand(0, 6);
        check.due("cut() above it", x.cut(), 1);
        x.demand(0, 5);
        x.good(1, 2, 3, 1);
        x.good(1, 2, 3, 1);
        check.due("cut() of two goods", x.cut(), 2);
        x.capacity(1, 6);
        check.due("cut() with place", x.cut(), NONE);
        x.good(0, 2, 1, 1);
        // {0}: 5 + 1 > 5, the least set.
        check.due("cut() of a third good", x.cut(), 1);
        x.capacity(0, 6);
        check.due("cut() of {1}: 3 + 3 = 6; of {0, 1}: 3 + 3 + 1", x.cut(), 3);
        ManyGoods back = withNodes(10);
        back.good(9, 8, 1, 1);
        check.due("cut() of the last node", back.cut(), 512);
        back.arc(9, 7, 1, 1);
        check.due("cut() through 7", back.cut(), 640);
        back.arc(7, 8, 1, 1);
        check.due("cut() of none", back.cut(), NONE);
        back.good(0, 1, 1, 0);
        check.due("cut() asks for no worth", back.cut(), 1);
    }

    private static void promise22Count() {
        ManyGoods x = diamond();
        x.good(0, 3, 6, 5);
        x.good(3, 0, 4, 3);
        int[] due = {4, 4, 2, 40, 10, 8};
        for (int what = 0; what < 6; what++) {
            check.due("count(" + what + ")", x.count(what), due[what]);
        }
        for (int what : new int[] {-1, 6, LOW, HIGH}) {
            check.due("count(" + what + ")", x.count(what), BAD);
        }
        ManyGoods wide = withNodes(2);
        for (int i = 0; i < 24; i++) {
            wide.arc(0, 1, 1000, 0);
        }
        for (int g = 0; g < 6; g++) {
            wide.good(0, 1, 1000, 1000);
        }
        check.due("count(3) at most", wide.count(3), 24000);
        check.due("count(4) at most", wide.count(4), 6000);
        check.due("count(5) at most", wide.count(5), 6000);
    }

    /** 512 calls, the last one as good as the first. */
    private static void lastCalls() {
        ManyGoods x = diamond();
        x.good(0, 3, 6, 5);
        for (int call = 9; call < 511; call++) {
            int v = call % 101;
            int was = call == 9 ? 1 : (call - 1) % 101;
            check.due("call " + call, x.cost(0, v), was);
        }
        check.due("call 512", x.spent(), 6 * 4);
    }
}
