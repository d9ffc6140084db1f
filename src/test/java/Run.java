import java.util.ArrayList;
import java.util.List;
import java.util.StringJoiner;

/** One object and the calls on it, each with the answer that is due last. No object is asked more than 512 times. */
final class Run {
    static final int NONE = -1, BAD = -2, FULL = -3;
    static final int LOW = Integer.MIN_VALUE, HIGH = Integer.MAX_VALUE;
    static final int MAX_CALLS = 512;

    private final Check check;
    private final String name;
    private final ManyGoods object = new ManyGoods();
    private int calls = 0;

    Run(Check check, String name) {
        this.check = check;
        this.name = name;
    }

    int calls() {
        return calls;
    }

    private Run due(int want, int got, String call, int... with) {
        calls++;
        check.due(name + ", call " + calls + ": " + text(call, with), got, want);
        if (calls > MAX_CALLS) {
            check.holds(name + " keeps to " + MAX_CALLS + " calls", false);
        }
        return this;
    }

    private static String text(String call, int... with) {
        StringJoiner row = new StringJoiner(", ", call + "(", ")");
        for (int v : with) {
            row.add(String.valueOf(v));
        }
        return row.toString();
    }

    Run nodes(int many) {
        for (int n = 0; n < many; n++) {
            node(n);
        }
        return this;
    }

    Run node(int want) {
        return due(want, object.node(), "node");
    }

    Run arc(int a, int b, int capacity, int cost, int want) {
        return due(want, object.arc(a, b, capacity, cost), "arc", a, b, capacity, cost);
    }

    Run capacity(int i, int v, int want) {
        return due(want, object.capacity(i, v), "capacity", i, v);
    }

    Run cost(int i, int v, int want) {
        return due(want, object.cost(i, v), "cost", i, v);
    }

    Run good(int a, int b, int demand, int worth, int want) {
        return due(want, object.good(a, b, demand, worth), "good", a, b, demand, worth);
    }

    Run demand(int g, int v, int want) {
        return due(want, object.demand(g, v), "demand", g, v);
    }

    Run worth(int g, int v, int want) {
        return due(want, object.worth(g, v), "worth", g, v);
    }

    Run ways(int g, int want) {
        return due(want, object.ways(g), "ways", g);
    }

    Run way(int g, int k, int i, int want) {
        return due(want, object.way(g, k, i), "way", g, k, i);
    }

    /** A whole way: its cost, how many arcs, each of them, and none behind the last. */
    Run row(int g, int k, int cost, int... arcs) {
        way(g, k, -2, cost).way(g, k, -1, arcs.length);
        for (int i = 0; i < arcs.length; i++) {
            way(g, k, i, arcs[i]);
        }
        return way(g, k, arcs.length, BAD);
    }

    Run best(int want) {
        return due(want, object.best(), "best");
    }

    Run spent(int want) {
        return due(want, object.spent(), "spent");
    }

    Run plan(int g, int want) {
        return due(want, object.plan(g), "plan", g);
    }

    /** The whole best plan: its worth, its cost, the way of each good. */
    Run plans(int worth, int cost, int... ways) {
        best(worth).spent(cost);
        for (int g = 0; g < ways.length; g++) {
            plan(g, ways[g]);
        }
        return this;
    }

    Run load(int i, int want) {
        return due(want, object.load(i), "load", i);
    }

    Run price(int i, int d, int want) {
        return due(want, object.price(i, d), "price", i, d);
    }

    Run attempt(int g, int k, int want) {
        return due(want, object.attempt(g, k), "attempt", g, k);
    }

    Run attempted(int what, int want) {
        return due(want, object.attempted(what), "attempted", what);
    }

    /** All of a plan by hand: its worth, its cost, the first arc with too much. */
    Run tried(int worth, int cost, int arc) {
        return attempted(0, worth).attempted(1, cost).attempted(2, arc);
    }

    Run rate(int g, int part, int want) {
        return due(want, object.rate(g, part), "rate", g, part);
    }

    Run bottleneck(int g, int want) {
        return due(want, object.bottleneck(g), "bottleneck", g);
    }

    /** A good's rate as a fraction, and what binds it. */
    Run fair(int g, int above, int below, int arc) {
        return rate(g, 0, above).rate(g, 1, below).bottleneck(g, arc);
    }

    Run more(int g, int want) {
        return due(want, object.more(g), "more", g);
    }

    Run cut(int want) {
        return due(want, object.cut(), "cut");
    }

    Run count(int what, int want) {
        return due(want, object.count(what), "count", what);
    }

    Run counts(int... wants) {
        for (int what = 0; what < wants.length; what++) {
            count(what, wants[what]);
        }
        return this;
    }

    /** Every answer that the object can give now, and then those that tell what it holds and what comes next. */
    List<String> shown() {
        List<String> rows = new ArrayList<>();
        int arcs = object.count(1);
        int goods = object.count(2);
        calls += 2;
        for (int what = 0; what <= 5; what++) {
            tell(rows, object.count(what), "count", what);
        }
        tell(rows, object.best(), "best");
        tell(rows, object.spent(), "spent");
        tell(rows, object.cut(), "cut");
        for (int what = 0; what <= 2; what++) {
            tell(rows, object.attempted(what), "attempted", what);
        }
        for (int i = 0; i < arcs; i++) {
            tell(rows, object.load(i), "load", i);
            tell(rows, object.price(i, 1000), "price", i, 1000);
        }
        for (int g = 0; g < goods; g++) {
            tellGood(rows, g);
        }
        tellHeld(rows, arcs, goods);
        tellNext(rows);
        if (calls > MAX_CALLS) {
            check.holds(name + " keeps to " + MAX_CALLS + " calls: " + calls, false);
        }
        return rows;
    }

    private void tell(List<String> rows, int got, String call, int... with) {
        calls++;
        rows.add(text(call, with) + " answers " + got);
    }

    private void tellGood(List<String> rows, int g) {
        tell(rows, object.plan(g), "plan", g);
        tell(rows, object.rate(g, 0), "rate", g, 0);
        tell(rows, object.rate(g, 1), "rate", g, 1);
        tell(rows, object.bottleneck(g), "bottleneck", g);
        tell(rows, object.more(g), "more", g);
        int ways = object.ways(g);
        tell(rows, ways, "ways", g);
        for (int k = 0; k < ways; k++) {
            tell(rows, object.way(g, k, -2), "way", g, k, -2);
            int arcs = object.way(g, k, -1);
            tell(rows, arcs, "way", g, k, -1);
            for (int i = 0; i < arcs; i++) {
                tell(rows, object.way(g, k, i), "way", g, k, i);
            }
        }
    }

    private void tellHeld(List<String> rows, int arcs, int goods) {
        for (int i = 0; i < arcs; i++) {
            tell(rows, object.capacity(i, 7), "capacity", i, 7);
            tell(rows, object.cost(i, 3), "cost", i, 3);
        }
        for (int g = 0; g < goods; g++) {
            tell(rows, object.demand(g, 2), "demand", g, 2);
            tell(rows, object.worth(g, 5), "worth", g, 5);
            tell(rows, object.attempt(g, 0), "attempt", g, 0);
        }
    }

    private void tellNext(List<String> rows) {
        tell(rows, object.node(), "node");
        tell(rows, object.node(), "node");
        tell(rows, object.arc(0, 1, 9, 1), "arc", 0, 1, 9, 1);
        int g = object.good(0, 1, 4, 6);
        tell(rows, g, "good", 0, 1, 4, 6);
        tell(rows, object.attempted(0), "attempted", 0);
        tell(rows, object.attempt(g, -1), "attempt", g, -1);
        tell(rows, object.best(), "best");
        tell(rows, object.cut(), "cut");
        for (int what = 0; what <= 5; what++) {
            tell(rows, object.count(what), "count", what);
        }
    }

    /** Makes the object work out all that it may keep. */
    Run asked() {
        calls += 5;
        object.ways(0);
        object.best();
        object.attempted(2);
        object.rate(0, 0);
        object.more(0);
        return this;
    }

    /** A call that is handed in. */
    Run done(Step step) {
        return due(step.want(), step.call().on(object), step.name());
    }

    interface Call {
        int on(ManyGoods x);
    }

    record Step(String name, int want, Call call) {
    }
}
