/** An object is used for 512 calls: the last one is answered as well as the first, whatever the calls before it were. */
public final class LastCallTest {
    private static final int NONE = Run.NONE, BAD = Run.BAD, FULL = Run.FULL;
    private static final Check check = new Check("LastCallTest");

    public static void main(String[] args) {
        nodesAlone();
        refusedAlone();
        questionsAlone();
        dearQuestions();
        changesAndPlans();
        changesAndWays();
        handsAlone();
        manyObjects();
        check.end();
    }

    private static Run run(String name) {
        return new Run(check, name);
    }

    private static boolean goesOn(Run x, int calls) {
        return x.calls() + calls <= Run.MAX_CALLS;
    }

    private static void nodesAlone() {
        Run x = run("512 times node").nodes(10);
        while (goesOn(x, 1)) {
            x.node(FULL);
        }
        check.due("calls", x.calls(), 512);
        Run y = run("511 times node, then count").nodes(10);
        while (goesOn(y, 2)) {
            y.node(FULL);
        }
        y.count(0, 10);
    }

    private static void refusedAlone() {
        Run x = run("511 refused calls, then a node");
        while (goesOn(x, 4)) {
            x.arc(0, 1, 1, 1, BAD).good(0, 1, 1, 1, BAD).attempt(0, 0, BAD);
        }
        while (goesOn(x, 2)) {
            x.count(6, BAD);
        }
        x.node(0);
        check.due("calls", x.calls(), 512);
    }

    private static Run small(String name) {
        Run x = run(name).nodes(4).arc(0, 1, 10, 1, 0).arc(1, 3, 10, 1, 1).arc(0, 2, 10, 2, 2).arc(2, 3, 10, 2, 3);
        return x.good(0, 3, 6, 5, 0).good(0, 3, 5, 4, 1);
    }

    private static void questionsAlone() {
        Run x = small("the same questions up to call 512").attempt(0, 1, NONE);
        while (goesOn(x, 26)) {
            x.counts(4, 4, 2, 40, 11, 9).plans(9, 32, 0, 1).tried(5, 24, NONE).load(0, 6).load(3, 5).more(0, 9).more(1, 9);
            x.fair(0, 5, 1, 0).ways(0, 2).price(0, 1, 0).cut(NONE).row(1, 1, 4, 2, 3);
        }
        while (goesOn(x, 1)) {
            x.best(9);
        }
        check.due("calls", x.calls(), 512);
    }

    /** Every arc and every good is there, and each answer has to be worked out anew. */
    private static void dearQuestions() {
        Run x = run("dear questions up to call 512").nodes(10);
        for (int i = 0; i < 24; i++) {
            x.arc(i % 8, i % 8 + 1, 1000, 1, i);
        }
        for (int g = 0; g < 6; g++) {
            x.good(0, 8, 500, 1000, g);
        }
        // Three arcs from each of nodes 0 .. 7 to the next one: the first five ways begin 0, 1, 2, .. 5 and differ at the
        // end, so that each of these arcs binds and more room on one alone brings nothing.
        x.row(0, 0, 8, 0, 1, 2, 3, 4, 5, 6, 7).way(0, 4, 7, 15).way(0, 4, 6, 14);
        for (int turn = 0; goesOn(x, 6); turn++) {
            int now = 1 + turn % 2;
            x.cost(23, 3 - now, turn == 0 ? 1 : now).price(0, 1000, 0).cut(NONE).more(0, 2000).best(2000).spent(8000);
        }
        while (goesOn(x, 1)) {
            x.load(0, 1000);
        }
        check.due("calls", x.calls(), 512);
    }

    private static void changesAndPlans() {
        Run x = small("a change and a plan up to call 512");
        for (int turn = 0; goesOn(x, 4); turn++) {
            boolean narrow = turn % 2 == 0;
            x.capacity(0, narrow ? 5 : 10, narrow ? 10 : 5).plans(9, narrow ? 34 : 32, narrow ? 1 : 0);
        }
        while (goesOn(x, 1)) {
            x.cut(NONE);
        }
        check.due("calls", x.calls(), 512);
    }

    private static void changesAndWays() {
        Run x = small("a change and a way up to call 512");
        int was = 1;
        for (int turn = 0; goesOn(x, 2); turn++) {
            int now = turn % 101;
            x.cost(0, now, was).way(0, 0, -2, Math.min(now + 1, 4));
            was = now;
        }
        while (goesOn(x, 1)) {
            x.cost(0, was, was);
        }
        check.due("calls", x.calls(), 512);
    }

    private static void handsAlone() {
        Run x = small("a plan by hand up to call 512");
        int was = NONE;
        for (int turn = 0; goesOn(x, 2); turn++) {
            int now = turn % 6 - 1;
            x.attempt(0, now, was).attempted(1, now == -1 ? 0 : now == 0 ? 12 : now == 1 ? 24 : NONE);
            was = now;
        }
        while (goesOn(x, 1)) {
            x.attempt(0, was, was);
        }
        check.due("calls", x.calls(), 512);
    }

    /** Many objects beside one another, each with its own 512 calls. */
    private static void manyObjects() {
        Run[] rows = new Run[40];
        for (int n = 0; n < rows.length; n++) {
            rows[n] = run("object " + n + " of many").nodes(2).arc(0, 1, n, 1, 0).good(0, 1, 20, 7, 0);
        }
        for (int turn = 0; turn < 100; turn++) {
            for (int n = 0; n < rows.length; n++) {
                rows[n].best(n >= 20 ? 7 : 0).cut(n >= 20 ? NONE : 1).fair(0, n, 1, 0);
            }
        }
    }
}
