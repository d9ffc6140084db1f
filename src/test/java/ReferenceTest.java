/** Long runs of calls on ManyGoods and on PlainGoods: each answer has to be the same. */
public final class ReferenceTest {
    private static final int RUNS = 400;
    private static final int CALLS = 512;

    private final Check check;
    private final ManyGoods fast = new ManyGoods();
    private final PlainGoods plain = new PlainGoods();
    private final int run;
    private long seed;
    /** How many nodes, arcs and goods a run aims at, and how large its numbers are: runs differ. */
    private final int nodes, arcs, goods, size;

    private ReferenceTest(Check check, int run) {
        this.check = check;
        this.run = run;
        seed = run * 7919L + 17;
        nodes = 2 + below(9);
        arcs = 1 + below(24);
        goods = 1 + below(run % 8 == 0 ? 6 : 4);
        size = new int[] {1, 3, 12, 1000}[below(4)];
    }

    public static void main(String[] args) {
        Check check = new Check("ReferenceTest");
        for (int run = 0; run < RUNS && check.wrong() < 20; run++) {
            new ReferenceTest(check, run).go();
        }
        check.end();
    }

    /** A row of numbers that is the same each time. */
    private int below(int bound) {
        seed = seed * 6364136223846793005L + 1442695040888963407L;
        return (int) Math.floorMod(seed >>> 33, (long) bound);
    }

    private void go() {
        build();
        for (int call = nodes + arcs + goods; call < CALLS && check.wrong() < 20; call++) {
            if (below(12) == 0) {
                change();
            } else {
                ask();
            }
        }
    }

    private void same(String call, int got, int want, int... with) {
        if (got != want) {
            check.due("run " + run + ": " + call + java.util.Arrays.toString(with), got, want);
        } else {
            check.due(call, got, want);
        }
    }

    private void build() {
        for (int n = 0; n < nodes; n++) {
            same("node", fast.node(), plain.node());
        }
        for (int i = 0; i < arcs; i++) {
            arc(below(nodes), below(nodes), number(0, 1000), number(0, 100));
        }
        for (int g = 0; g < goods; g++) {
            good(below(nodes), below(nodes), number(1, 1000), number(0, 1000));
        }
    }

    /** Mostly an ordinary number, at times one that is wrong or at the edge. */
    private int number(int least, int most) {
        switch (below(40)) {
            case 0:
                return least - 1;
            case 1:
                return most + 1;
            case 2:
                return below(2) == 0 ? Integer.MIN_VALUE : Integer.MAX_VALUE;
            case 3:
                return least;
            case 4:
                return most;
            default:
                return least + below(Math.min(size, most - least) + 1);
        }
    }

    private void arc(int a, int b, int capacity, int cost) {
        same("arc", fast.arc(a, b, capacity, cost), plain.arc(a, b, capacity, cost), a, b, capacity, cost);
    }

    private void good(int a, int b, int demand, int worth) {
        same("good", fast.good(a, b, demand, worth), plain.good(a, b, demand, worth), a, b, demand, worth);
    }

    private int anArc() {
        return below(plain.count(1) + 2) - 1;
    }

    private int aGood() {
        return below(plain.count(2) + 2) - 1;
    }

    private void change() {
        int i = anArc();
        int g = aGood();
        int v;
        switch (below(8)) {
            case 0:
                same("node", fast.node(), plain.node());
                break;
            case 1:
                arc(below(nodes), below(nodes + 1), number(0, 1000), number(0, 100));
                break;
            case 2:
                if (plain.count(2) < goods || run % 8 == 0) {
                    good(below(nodes), below(nodes + 1), number(1, 1000), number(0, 1000));
                }
                break;
            case 3:
                v = number(0, 1000);
                same("capacity", fast.capacity(i, v), plain.capacity(i, v), i, v);
                break;
            case 4:
                v = number(0, 100);
                same("cost", fast.cost(i, v), plain.cost(i, v), i, v);
                break;
            case 5:
                v = number(1, 1000);
                same("demand", fast.demand(g, v), plain.demand(g, v), g, v);
                break;
            case 6:
                v = number(0, 1000);
                same("worth", fast.worth(g, v), plain.worth(g, v), g, v);
                break;
            default:
                v = number(-1, 4);
                same("attempt", fast.attempt(g, v), plain.attempt(g, v), g, v);
        }
    }

    private void ask() {
        int g = aGood();
        int i = anArc();
        int v;
        switch (below(16)) {
            case 0:
                same("ways", fast.ways(g), plain.ways(g), g);
                break;
            case 1:
            case 2:
            case 3:
                int k = below(7) - 1;
                v = below(12) - 3;
                same("way", fast.way(g, k, v), plain.way(g, k, v), g, k, v);
                break;
            case 4:
                same("best", fast.best(), plain.best());
                break;
            case 5:
                same("spent", fast.spent(), plain.spent());
                break;
            case 6:
                same("plan", fast.plan(g), plain.plan(g), g);
                break;
            case 7:
                same("load", fast.load(i), plain.load(i), i);
                break;
            case 8:
                if (below(plain.count(2) > 4 ? 8 : 1) == 0) {
                    v = number(1, 1000);
                    same("price", fast.price(i, v), plain.price(i, v), i, v);
                }
                break;
            case 9:
                v = below(5) - 1;
                same("attempted", fast.attempted(v), plain.attempted(v), v);
                break;
            default:
                askRates(g);
        }
    }

    private void askRates(int g) {
        int v;
        switch (below(6)) {
            case 0:
            case 1:
                v = below(4) - 1;
                same("rate", fast.rate(g, v), plain.rate(g, v), g, v);
                break;
            case 2:
                same("bottleneck", fast.bottleneck(g), plain.bottleneck(g), g);
                break;
            case 3:
                same("more", fast.more(g), plain.more(g), g);
                break;
            case 4:
                same("cut", fast.cut(), plain.cut());
                break;
            default:
                v = below(8) - 1;
                same("count", fast.count(v), plain.count(v), v);
        }
    }
}
