/** The least and the most of every number and of every argument: the bound itself, one inside it, one outside it. */
public final class BoundsTest {
    private static final int NONE = Run.NONE, BAD = Run.BAD, FULL = Run.FULL;
    private static final Check check = new Check("BoundsTest");

    public static void main(String[] args) {
        promise2TenNodes();
        promise3TwoNodesOfAnArc();
        promise3NodesThatAreThere();
        promise3CapacityOfANewArc();
        promise3CostOfANewArc();
        promise3TwentyFourArcs();
        promise4Capacity();
        promise5Cost();
        promise4And5And14And15NoArc();
        promise6TwoNodesOfAGood();
        promise6DemandOfANewGood();
        promise6WorthOfANewGood();
        promise6SixGoods();
        promise7Demand();
        promise8Worth();
        promises7To20NoGood();
        promise9FiveWaysAtMost();
        promise10NumbersOfWays();
        promise10PlacesOfAWay();
        promise10NineArcsAtMost();
        promise15More();
        promise16NumbersOfWays();
        promise16WhatWas();
        promise17What();
        promise18Part();
        promise22What();
        promise22Most();
        check.end();
    }

    private static Run run(String name) {
        return new Run(check, name);
    }

    /** One below the least, one above the most, as far off as can be, and what would do if its high bits were lost. */
    private static int[] outside(int least, int most) {
        return new int[] {least - 1, most + 1, Run.LOW, Run.LOW + least, Run.HIGH, 65536 + least, 65536 + most};
    }

    private static int[] inside(int least, int most) {
        return new int[] {least, least + 1, most - 1, most};
    }

    /** 2 nodes and one arc of capacity 10 and cost 1, one good of demand 5 and worth 6. */
    private static Run small(String name) {
        return run(name).nodes(2).arc(0, 1, 10, 1, 0).good(0, 1, 5, 6, 0);
    }

    private static void promise2TenNodes() {
        Run x = run("FULL: 10").nodes(9).arc(0, 8, 1, 1, 0).arc(0, 9, 1, 1, BAD).count(0, 9);
        x.node(9).count(0, 10).arc(0, 9, 1, 1, 1).arc(9, 0, 1, 1, 2);
        x.node(FULL).count(0, 10).node(FULL).count(0, 10);
        x.arc(0, 10, 1, 1, BAD).arc(10, 0, 1, 1, BAD).good(0, 10, 1, 1, BAD).good(9, 0, 1, 1, 0);
    }

    private static void promise3TwoNodesOfAnArc() {
        Run x = run("arc: no two NODES").arc(0, 1, 1, 1, BAD).arc(0, 0, 1, 1, BAD);
        x.node(0).arc(0, 0, 1, 1, BAD).arc(0, 1, 1, 1, BAD).arc(1, 0, 1, 1, BAD);
        x.node(1).arc(0, 0, 1, 1, BAD).arc(1, 1, 1, 1, BAD).counts(2, 0, 0, 0, 0, 0);
        x.arc(0, 1, 1, 1, 0).arc(1, 0, 1, 1, 1).counts(2, 2, 0, 2, 0, 0);
    }

    private static void promise3NodesThatAreThere() {
        Run x = run("arc: from and to").nodes(3);
        for (int n : outside(0, 2)) {
            x.arc(n, 1, 1, 1, BAD).arc(1, n, 1, 1, BAD).arc(n, n, 1, 1, BAD).good(n, 1, 1, 1, BAD).good(1, n, 1, 1, BAD);
        }
        // A set of nodes as bits is the same for 32 more: none of them may pass for node 0, 1 or 2.
        for (int n : new int[] {32, 33, 34, -32, -31, -30}) {
            x.arc(n, 1, 1, 1, BAD).arc(1, n, 1, 1, BAD).good(n, 1, 1, 1, BAD).good(1, n, 1, 1, BAD);
        }
        x.counts(3, 0, 0, 0, 0, 0).arc(0, 1, 1, 1, 0).arc(1, 2, 1, 1, 1).arc(2, 0, 1, 1, 2).arc(0, 2, 1, 1, 3);
    }

    private static void promise3CapacityOfANewArc() {
        Run x = run("arc: CAPACITY 0 .. 1,000").nodes(2);
        int arcs = 0;
        for (int v : inside(0, 1000)) {
            x.arc(0, 1, v, 1, arcs).capacity(arcs, 0, v);
            arcs++;
        }
        for (int v : outside(0, 1000)) {
            x.arc(0, 1, v, 1, BAD).count(1, arcs).count(3, 0);
        }
        x.arc(0, 1, 5, 1, arcs);
    }

    private static void promise3CostOfANewArc() {
        Run x = run("arc: COST 0 .. 100").nodes(2);
        int arcs = 0;
        for (int v : inside(0, 100)) {
            x.arc(0, 1, 1, v, arcs).cost(arcs, 50, v);
            arcs++;
        }
        for (int v : outside(0, 100)) {
            x.arc(0, 1, 1, v, BAD).count(1, arcs).count(3, arcs);
        }
        x.arc(0, 1, 1, 5, arcs);
    }

    private static void promise3TwentyFourArcs() {
        Run x = run("FULL: 24").nodes(3);
        for (int i = 0; i < 23; i++) {
            x.arc(0, 1, 2, 1, i);
        }
        x.count(1, 23).capacity(23, 1, BAD).cost(23, 1, BAD).load(23, BAD).price(23, 1, BAD);
        x.arc(1, 2, 3, 4, 23).count(1, 24).count(3, 49).load(23, 0).price(23, 1, 0);
        x.arc(0, 2, 1, 1, FULL).arc(0, 1, 1, 1, FULL).arc(2, 1, 0, 0, FULL).arc(1, 0, 1000, 100, FULL);
        x.count(1, 24).count(3, 49).capacity(23, 5, 3).cost(23, 6, 4).capacity(24, 1, BAD).cost(24, 1, BAD);
        // An arc that is bad is BAD, however many there are.
        x.arc(0, 0, 1, 1, BAD).arc(0, 3, 1, 1, BAD).arc(-1, 0, 1, 1, BAD);
        x.arc(0, 1, -1, 1, BAD).arc(0, 1, 1001, 1, BAD).arc(0, 1, 1, -1, BAD).arc(0, 1, 1, 101, BAD);
        x.count(1, 24).count(3, 51).arc(0, 1, 1, 1, FULL);
    }

    private static void promise4Capacity() {
        Run x = small("capacity: CAPACITY 0 .. 1,000");
        int was = 10;
        for (int v : inside(0, 1000)) {
            x.capacity(0, v, was).count(3, v).capacity(0, v, v).best(v >= 5 ? 6 : 0);
            was = v;
        }
        for (int v : outside(0, 1000)) {
            x.capacity(0, v, BAD).count(3, 1000).best(6);
        }
        x.capacity(0, 3, 1000);
    }

    private static void promise5Cost() {
        Run x = small("cost: COST 0 .. 100");
        int was = 1;
        for (int v : inside(0, 100)) {
            x.cost(0, v, was).way(0, 0, -2, v).spent(5 * v).cost(0, v, v);
            was = v;
        }
        for (int v : outside(0, 100)) {
            x.cost(0, v, BAD).way(0, 0, -2, 100).spent(500);
        }
        x.cost(0, 3, 100);
    }

    private static void noArc(Run x, int i) {
        x.capacity(i, 1, BAD).cost(i, 1, BAD).load(i, BAD).price(i, 1, BAD);
        x.capacity(i, -1, BAD).cost(i, 101, BAD).price(i, 0, BAD);
    }

    private static void promise4And5And14And15NoArc() {
        Run x = run("no ARC").nodes(2);
        noArc(x, 0);
        noArc(x, -1);
        x.arc(0, 1, 3, 4, 0);
        for (int i : outside(0, 0)) {
            noArc(x, i);
        }
        x.capacity(0, 5, 3).cost(0, 6, 4).load(0, 0).price(0, 1, 0);
        x.arc(0, 1, 3, 4, 1).arc(0, 1, 3, 4, 2);
        for (int i : outside(0, 2)) {
            noArc(x, i);
        }
        x.capacity(2, 6, 3).cost(2, 7, 4).load(2, 0).price(2, 1, 0).count(3, 14);
    }

    private static void promise6TwoNodesOfAGood() {
        Run x = run("good: no two NODES").good(0, 1, 1, 1, BAD).good(0, 0, 1, 1, BAD);
        x.node(0).good(0, 0, 1, 1, BAD).good(0, 1, 1, 1, BAD).good(1, 0, 1, 1, BAD);
        x.node(1).good(0, 0, 1, 1, BAD).good(1, 1, 1, 1, BAD).counts(2, 0, 0, 0, 0, 0);
        x.good(0, 1, 1, 1, 0).good(1, 0, 1, 1, 1).counts(2, 0, 2, 0, 2, 2);
    }

    private static void promise6DemandOfANewGood() {
        Run x = run("good: DEMAND 1 .. 1,000").nodes(2);
        int goods = 0;
        for (int v : inside(1, 1000)) {
            x.good(0, 1, v, 1, goods).demand(goods, 1, v);
            goods++;
        }
        for (int v : outside(1, 1000)) {
            x.good(0, 1, v, 1, BAD).count(2, goods).count(4, goods);
        }
        x.good(0, 1, 5, 1, goods);
    }

    private static void promise6WorthOfANewGood() {
        Run x = run("good: WORTH 0 .. 1,000").nodes(2);
        int goods = 0;
        for (int v : inside(0, 1000)) {
            x.good(0, 1, 1, v, goods).worth(goods, 0, v);
            goods++;
        }
        for (int v : outside(0, 1000)) {
            x.good(0, 1, 1, v, BAD).count(2, goods).count(5, 0);
        }
        x.good(0, 1, 1, 5, goods);
    }

    private static void promise6SixGoods() {
        Run x = run("FULL: 6").nodes(3);
        for (int g = 0; g < 5; g++) {
            x.good(0, 1, 2, 1, g);
        }
        x.count(2, 5).ways(5, BAD).attempt(5, 0, BAD);
        x.good(1, 2, 3, 4, 5).count(2, 6).count(4, 13).count(5, 9).ways(5, 0).attempt(5, 0, NONE);
        x.good(0, 2, 1, 1, FULL).good(0, 1, 1, 1, FULL).good(2, 1, 1, 0, FULL).good(1, 0, 1000, 1000, FULL);
        x.count(2, 6).count(4, 13).count(5, 9).demand(5, 5, 3).worth(5, 6, 4).demand(6, 1, BAD).worth(6, 1, BAD);
        // A good that is bad is BAD, however many there are.
        x.good(0, 0, 1, 1, BAD).good(0, 3, 1, 1, BAD).good(-1, 0, 1, 1, BAD);
        x.good(0, 1, 0, 1, BAD).good(0, 1, 1001, 1, BAD).good(0, 1, 1, -1, BAD).good(0, 1, 1, 1001, BAD);
        x.count(2, 6).count(4, 15).count(5, 11).good(0, 1, 1, 1, FULL);
    }

    private static void promise7Demand() {
        Run x = small("demand: DEMAND 1 .. 1,000");
        int was = 5;
        for (int v : inside(1, 1000)) {
            x.demand(0, v, was).count(4, v).demand(0, v, v).best(v <= 10 ? 6 : 0);
            was = v;
        }
        for (int v : outside(1, 1000)) {
            x.demand(0, v, BAD).count(4, 1000).best(0);
        }
        x.demand(0, 3, 1000).best(6);
    }

    private static void promise8Worth() {
        Run x = small("worth: WORTH 0 .. 1,000");
        int was = 6;
        for (int v : inside(0, 1000)) {
            x.worth(0, v, was).count(5, v).worth(0, v, v).best(v);
            was = v;
        }
        for (int v : outside(0, 1000)) {
            x.worth(0, v, BAD).count(5, 1000).best(1000);
        }
        x.worth(0, 3, 1000);
    }

    private static void noGood(Run x, int g) {
        x.demand(g, 1, BAD).worth(g, 1, BAD).ways(g, BAD).plan(g, BAD).attempt(g, -1, BAD).attempt(g, 0, BAD);
        x.way(g, 0, 0, BAD).way(g, 0, -1, BAD).way(g, 0, -2, BAD);
        x.rate(g, 0, BAD).rate(g, 1, BAD).rate(g, 2, BAD).bottleneck(g, BAD).more(g, BAD);
    }

    private static void promises7To20NoGood() {
        Run none = run("no GOOD").nodes(2).arc(0, 1, 3, 4, 0);
        noGood(none, 0);
        noGood(none, -1);
        none.good(0, 1, 2, 3, 0);
        for (int g : outside(0, 0)) {
            noGood(none, g);
        }
        none.demand(0, 1, 2).worth(0, 4, 3).ways(0, 1).row(0, 0, 4, 0).plan(0, 0).attempt(0, -1, NONE);
        none.fair(0, 3, 1, 0).more(0, 2);
        Run all = run("no GOOD behind 5").nodes(2).arc(0, 1, 3, 4, 0);
        for (int g = 0; g < 6; g++) {
            all.good(0, 1, 1, 1, g);
        }
        for (int g : outside(0, 5)) {
            noGood(all, g);
        }
        all.plan(5, NONE).demand(5, 2, 1).worth(5, 5, 1).ways(5, 1).row(5, 0, 4, 0).attempt(5, 4, NONE);
        all.fair(5, 1, 2, 0).more(5, 0);
    }

    private static void promise9FiveWaysAtMost() {
        Run x = run("5 at most").nodes(2).good(0, 1, 1, 1, 0).ways(0, 0).way(0, 0, -1, BAD);
        for (int i = 0; i < 24; i++) {
            int ways = Math.min(i + 1, 5);
            x.arc(0, 1, 0, 100 - i, i).ways(0, ways).way(0, ways - 1, -1, 1).way(0, ways, -1, BAD);
            // The dearest of the first five: 100 as long as all are among them, then the fifth from the last.
            x.way(0, ways - 1, -2, Math.min(100, 104 - i)).way(0, 0, -2, 100 - i);
        }
    }

    private static void promise10NumbersOfWays() {
        Run x = run("way: WAYS 0 .. 4").nodes(2).good(0, 1, 1, 1, 0);
        for (int i = 0; i < 6; i++) {
            x.arc(0, 1, 0, i, i);
        }
        for (int k : outside(0, 4)) {
            x.way(0, k, 0, BAD).way(0, k, -1, BAD).way(0, k, -2, BAD);
        }
        for (int k : inside(0, 4)) {
            x.row(0, k, k, k);
        }
        Run two = run("way: two WAYS").nodes(2).arc(0, 1, 0, 8, 0).arc(0, 1, 0, 9, 1).good(0, 1, 1, 1, 0);
        two.row(0, 0, 8, 0).row(0, 1, 9, 1);
        for (int k : outside(0, 1)) {
            two.way(0, k, 0, BAD).way(0, k, -1, BAD).way(0, k, -2, BAD);
        }
    }

    private static void promise10PlacesOfAWay() {
        Run x = run("way: ARC i, - 1, - 2").nodes(4).good(0, 3, 1, 1, 0);
        x.arc(2, 3, 0, 100, 0).arc(1, 2, 0, 30, 1).arc(0, 1, 0, 0, 2);
        x.way(0, 0, -3, BAD).way(0, 0, -2, 130).way(0, 0, -1, 3);
        x.way(0, 0, 0, 2).way(0, 0, 1, 1).way(0, 0, 2, 0).way(0, 0, 3, BAD).way(0, 0, 4, BAD).way(0, 0, 9, BAD);
        for (int i : outside(-2, 2)) {
            x.way(0, 0, i, BAD).way(0, 1, i, BAD).way(1, 0, i, BAD);
        }
        // Each place is asked again, now that another way is the first one, and one arc long.
        x.arc(0, 3, 0, 7, 3).row(0, 0, 7, 3).row(0, 1, 130, 2, 1, 0).way(0, 0, 2, BAD).way(0, 1, 2, 0);
    }

    private static void promise10NineArcsAtMost() {
        Run x = run("a WAY through all NODES").nodes(10).good(9, 0, 1000, 1000, 0);
        for (int n = 0; n < 9; n++) {
            x.arc(n + 1, n, 1000, 100, n);
        }
        x.row(0, 0, 900, 8, 7, 6, 5, 4, 3, 2, 1, 0).way(0, 0, 8, 0).way(0, 0, 9, BAD).ways(0, 1);
        x.plans(1000, 900000, 0).load(0, 1000).load(8, 1000).fair(0, 1000, 1, 0).more(0, 0).cut(NONE);
        // Arcs back make rows that come to a node twice, and none that is a way.
        for (int n = 0; n < 9; n++) {
            x.arc(n, n + 1, 1000, 0, 9 + n);
        }
        x.ways(0, 1).way(0, 0, -2, 900).way(0, 0, -1, 9).arc(9, 1, 0, 0, 18).ways(0, 2).row(0, 0, 100, 18, 0);
    }

    private static void promise15More() {
        Run x = run("price: d 1 .. 1,000").nodes(2).arc(0, 1, 1000, 1, 0);
        x.good(0, 1, 1000, 500, 0).good(0, 1, 1000, 400, 1).good(0, 1, 1, 3, 2).good(0, 1, 1, 2, 3);
        x.price(0, 0, BAD).price(0, 1, 3).price(0, 2, 5).price(0, 3, 5);
        x.price(0, 999, 5).price(0, 1000, 400).price(0, 1001, BAD);
        for (int d : outside(1, 1000)) {
            x.price(0, d, BAD).price(1, d, BAD);
        }
        x.plans(500, 1000, 0, NONE, NONE, NONE).load(0, 1000).count(3, 1000);
        x.capacity(0, 0, 1000).price(0, 1, 3).price(0, 2, 5).price(0, 999, 5).price(0, 1000, 500).best(0).count(3, 0);
    }

    private static void promise16NumbersOfWays() {
        Run x = small("attempt: - 1 .. 4").attempt(0, -2, BAD).attempt(0, -1, NONE);
        int was = NONE;
        for (int k : inside(-1, 4)) {
            x.attempt(0, k, was);
            was = k;
        }
        for (int k : outside(-1, 4)) {
            x.attempt(0, k, BAD);
        }
        x.attempt(0, 5, BAD).attempt(0, 4, 4);
    }

    /** A way may be tried whether it is there or not. */
    private static void promise16WhatWas() {
        Run x = run("attempt: what was").nodes(2).good(0, 1, 1, 1, 0).good(1, 0, 1, 1, 1);
        x.attempt(0, 4, NONE).attempt(0, 3, 4).attempt(0, 2, 3).attempt(0, 1, 2).attempt(0, 0, 1).attempt(0, 0, 0);
        x.attempt(1, -1, NONE).attempt(0, -1, 0).attempt(0, -1, NONE).attempt(1, 4, NONE).attempt(0, 2, NONE);
        x.attempt(0, -1, 2).attempt(1, -1, 4);
    }

    private static void promise17What() {
        Run x = small("attempted: 0, 1, 2").tried(0, 0, NONE).attempt(0, 0, NONE).tried(6, 5, NONE);
        for (int what : outside(0, 2)) {
            x.attempted(what, BAD);
        }
        x.capacity(0, 4, 10).tried(6, 5, 0).attempt(0, 1, 0).tried(NONE, NONE, NONE);
        for (int what : outside(0, 2)) {
            x.attempted(what, BAD);
        }
    }

    private static void promise18Part() {
        Run x = small("rate: part 0, 1").good(0, 1, 1, 1, 1).good(0, 1, 1, 1, 2).good(1, 0, 1, 1, 3);
        x.fair(0, 10, 3, 0).fair(3, NONE, NONE, NONE);
        for (int part : outside(0, 1)) {
            x.rate(0, part, BAD).rate(3, part, BAD).rate(4, part, BAD);
        }
    }

    private static void promise22What() {
        Run x = small("count: 0 .. 5").counts(2, 1, 1, 10, 5, 6);
        for (int what : outside(0, 5)) {
            x.count(what, BAD);
        }
        x.node(2).counts(3, 1, 1, 10, 5, 6).arc(2, 0, 0, 0, 1).counts(3, 2, 1, 10, 5, 6);
        x.good(2, 0, 1, 0, 1).counts(3, 2, 2, 10, 6, 6).capacity(1, 1, 0).counts(3, 2, 2, 11, 6, 6);
        x.worth(1, 1, 0).demand(1, 2, 1).counts(3, 2, 2, 11, 7, 7).attempt(0, 0, NONE).counts(3, 2, 2, 11, 7, 7);
    }

    private static void promise22Most() {
        Run x = run("count: the most").nodes(10);
        for (int i = 0; i < 24; i++) {
            x.arc(0, 1, 1000, 100, i);
        }
        for (int g = 0; g < 6; g++) {
            x.good(0, 1, 1000, 1000, g);
        }
        x.counts(10, 24, 6, 24000, 6000, 6000).capacity(23, 999, 1000).demand(5, 999, 1000).worth(5, 999, 1000);
        x.counts(10, 24, 6, 23999, 5999, 5999);
    }
}
