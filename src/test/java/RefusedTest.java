import java.util.ArrayList;
import java.util.List;

/**
 * A refused call changes nothing that later calls show: each one is made on an object of its own, and all that the
 * object answers behind it is compared with what one answers that was never asked for it.
 */
public final class RefusedTest {
    private static final int NONE = Run.NONE, BAD = Run.BAD, FULL = Run.FULL;
    private static final Check check = new Check("RefusedTest");

    private enum State { EMPTY, ONE_NODE, NO_ARCS, NO_GOODS, SMALL, ALL_BUT_ONE, ALL_FULL }

    public static void main(String[] args) {
        for (State state : State.values()) {
            for (Run.Step step : refusedIn(state)) {
                compare(state, step, false);
                compare(state, step, true);
            }
            allAtOnce(state);
            askedTwice(state);
        }
        refusedWithinARow();
        check.end();
    }

    private static Run made(State state, String name) {
        Run x = new Run(check, name);
        switch (state) {
            case EMPTY:
                return x;
            case ONE_NODE:
                return x.node(0);
            case NO_ARCS:
                return x.nodes(3).good(0, 2, 3, 8, 0).good(2, 1, 5, 6, 1).attempt(1, 2, NONE);
            case NO_GOODS:
                return x.nodes(3).arc(0, 1, 4, 2, 0).arc(1, 2, 6, 3, 1);
            case SMALL:
                x.nodes(4).arc(0, 1, 5, 2, 0).arc(1, 3, 5, 1, 1).arc(0, 2, 4, 1, 2).arc(2, 3, 4, 2, 3).arc(1, 2, 3, 0, 4);
                x.good(0, 3, 4, 10, 0).good(0, 3, 4, 9, 1).good(1, 3, 3, 5, 2).good(3, 0, 1, 1, 3);
                return x.attempt(0, 1, NONE).attempt(2, 0, NONE);
            case ALL_BUT_ONE:
                return large(x, 9, 23, 5);
            default:
                return large(x, 10, 24, 6);
        }
    }

    private static Run large(Run x, int nodes, int arcs, int goods) {
        x.nodes(nodes);
        for (int i = 0; i < arcs; i++) {
            x.arc(i % 3, i % 3 + 1, 40 + i, 30 - i, i);
        }
        for (int g = 0; g < goods; g++) {
            x.good(g % 4, (g + 1) % 4, 20 + 9 * g, 50 - g, g).attempt(g, g % 5, NONE);
        }
        return x;
    }

    private static int[] size(State state) {
        switch (state) {
            case EMPTY:
                return new int[] {0, 0, 0};
            case ONE_NODE:
                return new int[] {1, 0, 0};
            case NO_ARCS:
                return new int[] {3, 0, 2};
            case NO_GOODS:
                return new int[] {3, 2, 0};
            case SMALL:
                return new int[] {4, 5, 4};
            case ALL_BUT_ONE:
                return new int[] {9, 23, 5};
            default:
                return new int[] {10, 24, 6};
        }
    }

    private static int[] outside(int least, int most) {
        return new int[] {least - 1, most + 1, Run.LOW, Run.HIGH, most + 65536, 32, 64, -32};
    }

    /** Those of outside that are no numbers of what there is. */
    private static List<Integer> beside(int many) {
        List<Integer> found = new ArrayList<>();
        for (int v : outside(0, many - 1)) {
            if (v < 0 || v >= many) {
                found.add(v);
            }
        }
        return found;
    }

    private static List<Run.Step> refusedIn(State state) {
        List<Run.Step> steps = new ArrayList<>();
        int[] size = size(state);
        wrongNodes(steps, size[0]);
        if (size[0] >= 2) {
            wrongNewOnes(steps);
        }
        wrongArcs(steps, size[1]);
        wrongGoods(steps, size[2]);
        wrongWhat(steps);
        if (state == State.ALL_FULL) {
            tooMany(steps);
        }
        return steps;
    }

    private static void add(List<Run.Step> steps, String name, int want, Run.Call call) {
        steps.add(new Run.Step(name, want, call));
    }

    private static void wrongNodes(List<Run.Step> steps, int nodes) {
        for (int n : beside(nodes)) {
            add(steps, "arc from " + n, BAD, x -> x.arc(n, 0, 9, 0));
            add(steps, "arc to " + n, BAD, x -> x.arc(0, n, 9, 0));
            add(steps, "good from " + n, BAD, x -> x.good(n, 0, 9, 9));
            add(steps, "good to " + n, BAD, x -> x.good(0, n, 9, 9));
        }
        for (int n = -1; n <= nodes; n++) {
            int same = n;
            add(steps, "arc from and to " + n, BAD, x -> x.arc(same, same, 9, 0));
            add(steps, "good from and to " + n, BAD, x -> x.good(same, same, 9, 9));
        }
    }

    private static void wrongNewOnes(List<Run.Step> steps) {
        for (int v : new int[] {-1, 1001, Run.LOW, Run.HIGH}) {
            add(steps, "arc of capacity " + v, BAD, x -> x.arc(0, 1, v, 0));
            add(steps, "good of worth " + v, BAD, x -> x.good(0, 1, 9, v));
        }
        for (int v : new int[] {-1, 101, Run.LOW, Run.HIGH}) {
            add(steps, "arc of cost " + v, BAD, x -> x.arc(0, 1, 9, v));
        }
        for (int v : new int[] {-1, 0, 1001, Run.LOW, Run.HIGH}) {
            add(steps, "good of demand " + v, BAD, x -> x.good(0, 1, v, 9));
        }
    }

    private static void wrongArcs(List<Run.Step> steps, int arcs) {
        for (int i : beside(arcs)) {
            add(steps, "capacity of " + i, BAD, x -> x.capacity(i, 9));
            add(steps, "cost of " + i, BAD, x -> x.cost(i, 9));
            add(steps, "load of " + i, BAD, x -> x.load(i));
            add(steps, "price of " + i, BAD, x -> x.price(i, 9));
        }
        for (int i = 0; i < arcs; i += Math.max(1, arcs - 1)) {
            int arc = i;
            for (int v : new int[] {-1, 1001, Run.LOW, Run.HIGH}) {
                add(steps, "capacity " + v + " of " + i, BAD, x -> x.capacity(arc, v));
            }
            for (int v : new int[] {-1, 101, Run.LOW, Run.HIGH}) {
                add(steps, "cost " + v + " of " + i, BAD, x -> x.cost(arc, v));
            }
            for (int d : new int[] {-1, 0, 1001, Run.LOW, Run.HIGH}) {
                add(steps, "price " + d + " of " + i, BAD, x -> x.price(arc, d));
            }
        }
    }

    private static void wrongGoods(List<Run.Step> steps, int goods) {
        for (int g : beside(goods)) {
            add(steps, "demand of " + g, BAD, x -> x.demand(g, 9));
            add(steps, "worth of " + g, BAD, x -> x.worth(g, 9));
            add(steps, "ways of " + g, BAD, x -> x.ways(g));
            add(steps, "way of " + g, BAD, x -> x.way(g, 0, 0));
            add(steps, "plan of " + g, BAD, x -> x.plan(g));
            add(steps, "attempt of " + g, BAD, x -> x.attempt(g, 0));
            add(steps, "attempt of none of " + g, BAD, x -> x.attempt(g, -1));
            add(steps, "rate of " + g, BAD, x -> x.rate(g, 0));
            add(steps, "bottleneck of " + g, BAD, x -> x.bottleneck(g));
            add(steps, "more of " + g, BAD, x -> x.more(g));
        }
        for (int i = 0; i < goods; i += Math.max(1, goods - 1)) {
            int g = i;
            for (int v : new int[] {-1, 0, 1001, Run.LOW, Run.HIGH}) {
                add(steps, "demand " + v + " of " + g, BAD, x -> x.demand(g, v));
            }
            for (int v : new int[] {-1, 1001, Run.LOW, Run.HIGH}) {
                add(steps, "worth " + v + " of " + g, BAD, x -> x.worth(g, v));
            }
            for (int k : new int[] {-2, 5, Run.LOW, Run.HIGH}) {
                add(steps, "attempt " + k + " of " + g, BAD, x -> x.attempt(g, k));
                add(steps, "way " + k + " of " + g, BAD, x -> x.way(g, k, -1));
            }
            for (int place : new int[] {-3, 10, Run.LOW, Run.HIGH}) {
                add(steps, "place " + place + " of way 0 of " + g, BAD, x -> x.way(g, 0, place));
            }
            for (int part : new int[] {-1, 2, Run.LOW, Run.HIGH}) {
                add(steps, "part " + part + " of the rate of " + g, BAD, x -> x.rate(g, part));
            }
        }
    }

    private static void wrongWhat(List<Run.Step> steps) {
        for (int what : outside(0, 2)) {
            add(steps, "attempted " + what, BAD, x -> x.attempted(what));
        }
        for (int what : outside(0, 5)) {
            add(steps, "count " + what, BAD, x -> x.count(what));
        }
    }

    private static void tooMany(List<Run.Step> steps) {
        add(steps, "node", FULL, x -> x.node());
        add(steps, "arc", FULL, x -> x.arc(0, 1, 1000, 0));
        add(steps, "another arc", FULL, x -> x.arc(9, 0, 0, 100));
        add(steps, "good", FULL, x -> x.good(0, 1, 1, 1000));
        add(steps, "another good", FULL, x -> x.good(9, 0, 1000, 0));
    }

    private static void compare(State state, Run.Step step, boolean asked) {
        String name = state + (asked ? ", asked before" : ", not asked before");
        Run with = made(state, name + ": " + step.name());
        Run without = made(state, name);
        if (asked) {
            with.asked();
            without.asked();
        }
        with.done(step);
        same(name + " and then " + step.name(), with.shown(), without.shown());
    }

    private static void same(String name, List<String> got, List<String> want) {
        check.due(name + ": answers", got.size(), want.size());
        for (int i = 0; i < got.size() && i < want.size(); i++) {
            check.holds(name + ": " + got.get(i) + ", where it is due that " + want.get(i), got.get(i).equals(want.get(i)));
        }
    }

    /** As many refused calls in one row as 512 calls leave place for. */
    private static void allAtOnce(State state) {
        List<Run.Step> steps = refusedIn(state);
        List<String> want = made(state, state + ", none refused").shown();
        int next = 0;
        while (next < steps.size()) {
            Run x = made(state, state + ", many refused");
            for (int many = 0; many < 120 && next < steps.size(); many++) {
                x.done(steps.get(next++));
            }
            same(state + ", many refused", x.shown(), want);
        }
    }

    /** Questions change nothing either. */
    private static void askedTwice(State state) {
        same(state + ", asked", made(state, state + ", asked").asked().asked().shown(), made(state, state + "").shown());
    }

    /** The number of a refused arc, good or node is given to the next one. */
    private static void refusedWithinARow() {
        Run x = new Run(check, "numbers without gaps").arc(0, 1, 1, 1, BAD).node(0).arc(0, 1, 1, 1, BAD).node(1);
        x.arc(0, 1, 1001, 1, BAD).arc(0, 1, 6, 2, 0).arc(0, 1, 1, 101, BAD).arc(0, 1, 5, 3, 1).arc(1, 1, 1, 1, BAD);
        x.good(0, 1, 0, 1, BAD).good(0, 1, 6, 4, 0).good(0, 1, 1, 1001, BAD).attempt(1, 1, BAD).good(0, 1, 5, 3, 1);
        x.attempt(1, -1, NONE).counts(2, 2, 2, 11, 11, 7).plans(7, 27, 0, 1).tried(0, 0, NONE);
        x.attempt(0, 1, NONE).attempt(0, 5, BAD).attempt(0, -2, BAD).tried(4, 18, 1).attempt(0, 0, 1);
    }
}
