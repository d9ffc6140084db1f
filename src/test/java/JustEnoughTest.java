/** What fits exactly, with one more room and with one less: plans, prices, flows, cuts; and the largest sums. */
public final class JustEnoughTest {
    private static final int NONE = Run.NONE;
    private static final Check check = new Check("JustEnoughTest");

    public static void main(String[] args) {
        loadAtTheCapacity();
        loadsTogether();
        mostOfAll();
        zeroOfAll();
        priceOfTheLastOne();
        priceOverAnotherArc();
        triedAtTheCapacity();
        triedAtMost();
        ratesAtMost();
        moreAtMost();
        moreOnSeveralWays();
        moreOnWaysBehindTheFifth();
        cutAtTheDemand();
        cutOfAllButOne();
        cutOnlyOfWhatLeadsOut();
        check.end();
    }

    private static Run run(String name) {
        return new Run(check, name);
    }

    private static void loadAtTheCapacity() {
        Run x = run("no LOAD above the CAPACITY").nodes(2).arc(0, 1, 4, 1, 0).good(0, 1, 5, 7, 0).plans(0, 0, NONE).load(0, 0);
        x.capacity(0, 5, 4).plans(7, 5, 0).load(0, 5).capacity(0, 6, 5).plans(7, 5, 0).load(0, 5);
        x.demand(0, 6, 5).plans(7, 6, 0).load(0, 6).demand(0, 7, 6).plans(0, 0, NONE).load(0, 0);
        // Each question is also the first one behind a change.
        x.capacity(0, 7, 6).load(0, 7).capacity(0, 6, 7).load(0, 0).demand(0, 6, 7).load(0, 6).cost(0, 2, 1).spent(12);
        x.worth(0, 0, 7).load(0, 0).worth(0, 8, 0).plan(0, 0).capacity(0, 5, 6).plan(0, NONE);
    }

    private static void loadsTogether() {
        Run x = run("LOADS together").nodes(3).arc(0, 1, 6, 0, 0).arc(1, 2, 9, 0, 1);
        x.good(0, 1, 1, 1, 0).good(0, 2, 2, 1, 1).good(0, 1, 3, 1, 2).plans(3, 0, 0, 0, 0).load(0, 6).load(1, 2);
        x.capacity(0, 5, 6).plans(2, 0, 0, 0, NONE).load(0, 3).load(1, 2).capacity(1, 1, 9).plans(2, 0, 0, NONE, 0).load(0, 4);
    }

    private static void mostOfAll() {
        Run x = run("the most of all").nodes(10);
        for (int n = 0; n < 9; n++) {
            x.arc(n, n + 1, 1000, 100, n);
        }
        for (int g = 0; g < 6; g++) {
            x.good(0, 9, 1000, 1000, g);
        }
        x.plans(1000, 900000, 0, NONE, NONE, NONE, NONE, NONE).load(0, 1000).price(0, 1000, 0).more(0, 0).cut(1);
        Run side = run("the most beside one another").nodes(2);
        for (int i = 0; i < 5; i++) {
            side.arc(0, 1, 1000, 100, i);
        }
        for (int g = 0; g < 6; g++) {
            side.good(0, 1, 1000, 1000, g);
        }
        side.plans(5000, 500000, 0, 1, 2, 3, 4, NONE).price(0, 999, 0).price(4, 1000, 1000).price(0, 1000, 1000).cut(1);
    }

    private static void zeroOfAll() {
        Run x = run("the least of all").nodes(2).arc(0, 1, 0, 0, 0).good(0, 1, 1, 0, 0).plans(0, 0, NONE).price(0, 1, 0);
        x.row(0, 0, 0, 0).capacity(0, 1, 0).plans(0, 0, 0).load(0, 1).more(0, 0).cut(NONE).fair(0, 1, 1, 0);
    }

    private static void priceOfTheLastOne() {
        Run x = run("price of the last one").nodes(2).arc(0, 1, 3, 1, 0).good(0, 1, 3, 4, 0).good(0, 1, 5, 9, 1);
        x.price(0, 1, 0).price(0, 2, 5).price(0, 3, 5).price(0, 4, 5).price(0, 5, 9).price(0, 6, 9).best(4).count(3, 3);
    }

    /** More room on one arc alone brings nothing as long as another one binds. */
    private static void priceOverAnotherArc() {
        Run x = run("price beside another arc").nodes(3).arc(0, 1, 3, 1, 0).arc(1, 2, 3, 1, 1).good(0, 2, 4, 8, 0);
        x.price(0, 1000, 0).price(1, 1000, 0).capacity(0, 4, 3).price(1, 1, 8).price(0, 1, 0).best(0).load(1, 0);
    }

    private static void triedAtTheCapacity() {
        Run x = run("TRIED: NONE: it FITS").nodes(2).arc(0, 1, 4, 1, 0).good(0, 1, 2, 7, 0).good(0, 1, 3, 8, 1);
        x.attempt(0, 0, NONE).tried(7, 2, NONE).attempt(1, 0, NONE).tried(15, 5, 0).capacity(0, 5, 4).tried(15, 5, NONE);
        x.capacity(0, 6, 5).tried(15, 5, NONE).demand(1, 5, 3).tried(15, 7, 0).attempt(0, -1, 0).tried(8, 5, NONE);
        x.capacity(0, 4, 6).tried(8, 5, 0).worth(1, 0, 8).tried(0, 5, 0).capacity(0, 0, 4).tried(0, 5, 0);
    }

    private static void triedAtMost() {
        Run x = run("TRIED: the most").nodes(10);
        for (int n = 0; n < 9; n++) {
            x.arc(n, n + 1, 1000, 100, n);
        }
        for (int g = 0; g < 6; g++) {
            x.good(0, 9, 1000, 1000, g).attempt(g, 0, NONE).tried(1000 * g + 1000, 900000 * (g + 1), g == 0 ? NONE : 0);
        }
        x.best(1000).spent(900000).load(8, 1000);
    }

    private static void ratesAtMost() {
        Run x = run("RATES at most").nodes(2).arc(0, 1, 1000, 0, 0).good(0, 1, 1, 1, 0).fair(0, 1000, 1, 0);
        int[][] due = {{1000, 1}, {500, 1}, {1000, 3}, {250, 1}, {200, 1}, {500, 3}};
        for (int g = 1; g < 6; g++) {
            x.good(0, 1, 1, 1, g).fair(0, due[g][0], due[g][1], 0).fair(g, due[g][0], due[g][1], 0);
        }
        x.capacity(0, 999, 1000).fair(5, 333, 2, 0).capacity(0, 1, 999).fair(5, 1, 6, 0).capacity(0, 0, 1).fair(5, 0, 1, 0);
    }

    private static void moreAtMost() {
        Run x = run("MORE: the most").nodes(2).good(0, 1, 1000, 0, 0);
        for (int i = 0; i < 24; i++) {
            x.arc(0, 1, 1000, 100, i).more(0, 1000 * (i + 1));
        }
        x.worth(0, 1, 0).plan(0, 0).more(0, 23000).demand(0, 1, 1000).more(0, 23999).capacity(0, 1, 1000).more(0, 23000);
        x.capacity(0, 0, 1).plan(0, 1).more(0, 22999);
    }

    /** In whole numbers, on several ways at once, which may share nodes. */
    private static void moreOnSeveralWays() {
        Run x = run("MORE on several WAYS").nodes(4).arc(0, 1, 3, 100, 0).arc(0, 2, 2, 100, 1).arc(1, 2, 2, 100, 2);
        x.arc(1, 3, 2, 100, 3).arc(2, 3, 3, 100, 4).good(0, 3, 1000, 0, 0).more(0, 5).capacity(4, 2, 3).more(0, 4);
        x.capacity(4, 4, 2).more(0, 5).capacity(2, 0, 2).more(0, 4).arc(3, 0, 1000, 0, 5).more(0, 4).capacity(0, 0, 3).more(0, 2);
    }

    private static void moreOnWaysBehindTheFifth() {
        Run x = run("MORE on any WAYS").nodes(3).good(0, 2, 1000, 1, 0);
        for (int i = 0; i < 5; i++) {
            x.arc(0, 2, 0, 0, i);
        }
        x.more(0, 0).arc(0, 1, 7, 100, 5).arc(1, 2, 6, 100, 6).more(0, 6).ways(0, 5).plan(0, NONE);
    }

    private static void cutAtTheDemand() {
        Run x = run("together below the DEMANDS").nodes(3).arc(0, 1, 2, 0, 0).arc(0, 2, 3, 0, 1).arc(1, 2, 9, 0, 2);
        x.good(0, 2, 4, 0, 0).cut(NONE).demand(0, 5, 4).cut(NONE).demand(0, 6, 5).cut(1).capacity(1, 4, 3).cut(NONE);
        // Out of {1, 2} nothing leads to 0 yet. A good that ends in {0} asks nothing of it; one more that begins there does.
        x.good(1, 0, 1, 0, 1).cut(6).arc(1, 0, 1, 0, 3).cut(NONE).good(0, 1, 1, 0, 2).cut(1);
    }

    private static void cutOfAllButOne() {
        Run x = run("the largest CUT").nodes(10).good(9, 0, 1, 0, 0).cut(512);
        for (int n = 9; n > 1; n--) {
            x.arc(n, n - 1, 1, 0, 9 - n).cut(1024 - (1 << n - 1));
        }
        x.arc(1, 0, 0, 0, 8).cut(1022).capacity(8, 1, 0).cut(NONE);
    }

    private static void cutOnlyOfWhatLeadsOut() {
        Run x = run("ARCS that lead out").nodes(4).arc(1, 0, 1000, 0, 0).arc(2, 3, 1000, 0, 1).arc(0, 1, 1, 0, 2);
        x.good(0, 1, 1, 0, 0).cut(NONE).good(0, 1, 1, 0, 1).cut(1).capacity(2, 2, 1).cut(NONE).good(2, 3, 1000, 0, 2).cut(NONE);
        x.good(2, 3, 1, 0, 3).cut(4);
    }
}
