/** What is answered where nothing is there: no nodes, no arcs, no goods, no way, no plan, no room, no cut. */
public final class NothingThereTest {
    private static final int NONE = Run.NONE, BAD = Run.BAD;
    private static final Check check = new Check("NothingThereTest");

    public static void main(String[] args) {
        promise1NoNodes();
        promise1EachObjectItsOwn();
        noArcs();
        noGoods();
        noWay();
        noWayInTime();
        nothingFits();
        noPlanByHand();
        promise17WayThatIsNotThere();
        promise17OneOfTwoIsNotThere();
        promise18RateOfNothing();
        promise18NothingLeft();
        promise20NoRoom();
        promise21NoCut();
        promise21NoArcsLeadOut();
        check.end();
    }

    private static Run run(String name) {
        return new Run(check, name);
    }

    private static void nothingPlanned(Run x) {
        x.plans(0, 0).tried(0, 0, NONE).cut(NONE);
    }

    private static void promise1NoNodes() {
        Run x = run("No NODES").counts(0, 0, 0, 0, 0, 0);
        nothingPlanned(x);
        x.arc(0, 1, 1, 1, BAD).arc(0, 0, 1, 1, BAD).arc(-1, 0, 1, 1, BAD).capacity(0, 1, BAD).cost(0, 1, BAD);
        x.good(0, 1, 1, 1, BAD).good(0, 0, 1, 1, BAD).demand(0, 1, BAD).worth(0, 1, BAD);
        x.ways(0, BAD).way(0, 0, 0, BAD).way(0, 0, -1, BAD).way(0, 0, -2, BAD).plan(0, BAD).load(0, BAD);
        x.price(0, 1, BAD).attempt(0, 0, BAD).attempt(0, -1, BAD).rate(0, 0, BAD).rate(0, 1, BAD);
        x.bottleneck(0, BAD).more(0, BAD).counts(0, 0, 0, 0, 0, 0).node(0);
    }

    private static void promise1EachObjectItsOwn() {
        Run first = run("the first object").nodes(3).arc(0, 1, 5, 1, 0).good(0, 1, 5, 7, 0).attempt(0, 0, NONE).best(7);
        Run second = run("the second object").counts(0, 0, 0, 0, 0, 0).plans(0, 0).tried(0, 0, NONE);
        second.nodes(2).arc(0, 1, 4, 1, 0).good(0, 1, 5, 8, 0).attempt(0, -1, NONE).best(0);
        first.plans(7, 5, 0).tried(7, 5, NONE).counts(3, 1, 1, 5, 5, 7).cut(NONE);
        second.cut(1);
    }

    private static void noArcs() {
        Run x = run("no ARCS").nodes(2).counts(2, 0, 0, 0, 0, 0).load(0, BAD).price(0, 1, BAD).capacity(0, 0, BAD);
        nothingPlanned(x);
        x.good(0, 1, 1, 1000, 0).ways(0, 0).plans(0, 0, NONE).fair(0, NONE, NONE, NONE).more(0, 0).cut(1);
    }

    private static void noGoods() {
        Run x = run("no GOODS").nodes(2).arc(0, 1, 0, 0, 0).arc(0, 1, 1000, 100, 1);
        nothingPlanned(x);
        x.load(0, 0).load(1, 0).price(0, 1, 0).price(1, 1000, 0).ways(0, BAD).counts(2, 2, 0, 1000, 0, 0);
    }

    private static void noWay() {
        Run x = run("no WAY").nodes(4).arc(1, 0, 9, 1, 0).arc(0, 2, 9, 1, 1).arc(3, 1, 9, 1, 2).good(0, 1, 1, 9, 0);
        x.ways(0, 0).way(0, 0, 0, BAD).way(0, 0, -1, BAD).way(0, 0, -2, BAD).plans(0, 0, NONE);
        x.load(0, 0).load(1, 0).load(2, 0).price(1, 1000, 0).fair(0, NONE, NONE, NONE).more(0, 0);
        // Nodes 0 and 2 let nothing out; without 2 the arc to it has room.
        x.cut(5).attempt(0, 0, NONE).tried(NONE, NONE, NONE).attempt(0, -1, 0).tried(0, 0, NONE);
    }

    /** A good without a way has one as soon as an arc brings it, and what binds it then. */
    private static void noWayInTime() {
        Run x = run("a WAY in time").nodes(3).arc(0, 1, 4, 2, 0).good(0, 2, 3, 8, 0).good(0, 1, 1, 1, 1);
        x.plans(1, 2, NONE, 0).fair(0, NONE, NONE, NONE).fair(1, 4, 1, 0).attempt(0, 0, NONE).tried(NONE, NONE, NONE);
        x.arc(1, 2, 3, 5, 1).plans(9, 23, 0, 0).fair(0, 2, 1, 0).fair(1, 2, 1, 0).tried(8, 21, NONE).ways(0, 1);
    }

    private static void nothingFits() {
        Run x = run("nothing FITS").nodes(2).arc(0, 1, 0, 0, 0).good(0, 1, 1, 1000, 0).good(0, 1, 1000, 1, 1);
        x.ways(0, 1).ways(1, 1).plans(0, 0, NONE, NONE).load(0, 0).more(0, 0).cut(1);
        x.price(0, 1, 1000).price(0, 999, 1000).price(0, 1000, 1000);
        x.worth(0, 0, 1000).price(0, 999, 0).price(0, 1000, 1);
    }

    private static void noPlanByHand() {
        Run x = run("none TRIED at first").nodes(2).arc(0, 1, 1, 1, 0).good(0, 1, 5, 5, 0).good(0, 1, 6, 6, 1);
        x.tried(0, 0, NONE).attempt(0, -1, NONE).tried(0, 0, NONE).attempt(1, 0, NONE).tried(6, 6, 0);
        x.good(0, 1, 7, 7, 2).tried(6, 6, 0).attempt(2, -1, NONE).attempt(1, -1, 0).tried(0, 0, NONE);
    }

    private static void promise17WayThatIsNotThere() {
        Run x = run("a WAY that is TRIED is not there").nodes(2).good(0, 1, 3, 5, 0);
        for (int k = 0; k <= 4; k++) {
            x.attempt(0, k, k - 1).tried(NONE, NONE, NONE).arc(0, 1, 3, k, k).tried(5, 3 * k, NONE);
        }
        // Way 4 is cheaper now, but there: only its number counts.
        x.arc(0, 1, 2, 0, 5).tried(5, 9, NONE).cost(5, 100, 0).tried(5, 12, NONE).capacity(4, 2, 3).tried(5, 12, 4);
    }

    private static void promise17OneOfTwoIsNotThere() {
        Run x = run("one of two is not there").nodes(3).arc(0, 1, 1, 7, 0).good(0, 1, 2, 3, 0).good(1, 2, 4, 5, 1);
        x.attempt(0, 0, NONE).tried(3, 14, 0).attempt(1, 0, NONE).tried(NONE, NONE, NONE).attempted(3, BAD);
        x.attempt(1, -1, 0).tried(3, 14, 0).attempt(0, 1, 0).tried(NONE, NONE, NONE).attempt(0, -1, 1).tried(0, 0, NONE);
    }

    private static void promise18RateOfNothing() {
        Run x = run("0 as 0 / 1").nodes(3).arc(0, 1, 0, 1, 0).arc(1, 2, 6, 1, 1).good(0, 1, 9, 9, 0).fair(0, 0, 1, 0);
        x.good(0, 1, 9, 9, 1).good(0, 2, 9, 9, 2).fair(0, 0, 1, 0).fair(1, 0, 1, 0).fair(2, 0, 1, 0);
        x.good(1, 2, 9, 9, 3).fair(3, 6, 1, 1).capacity(0, 1, 0).fair(0, 1, 3, 0).fair(3, 17, 3, 1);
        x.capacity(0, 3, 1).fair(0, 1, 1, 0).fair(2, 1, 1, 0).fair(3, 5, 1, 1);
    }

    /** Arc 0 binds good 0 at 2 of 4 and 1 of 3; what is left of each is told without common factors. */
    private static void promise18NothingLeft() {
        Run x = run("all of it has been given").nodes(3).arc(0, 1, 0, 1, 0).arc(1, 2, 0, 1, 1);
        x.good(0, 2, 1, 1, 0).good(1, 2, 1, 1, 1).fair(0, 0, 1, 0).fair(1, 0, 1, 1);
        x.capacity(1, 1, 0).fair(0, 0, 1, 0).fair(1, 1, 1, 1).capacity(0, 4, 0).fair(0, 1, 2, 1).fair(1, 1, 2, 1);
        x.capacity(0, 1, 4).capacity(1, 2, 1).fair(0, 1, 1, 0).fair(1, 1, 1, 1);
    }

    private static void promise20NoRoom() {
        Run x = run("no ROOM").nodes(3).arc(0, 1, 5, 1, 0).good(0, 1, 4, 1, 0).good(1, 0, 1, 1, 1).good(0, 2, 1, 1, 2);
        x.more(0, 1).more(1, 0).more(2, 0).demand(0, 5, 4).more(0, 0).demand(0, 6, 5).more(0, 5).capacity(0, 0, 5).more(0, 0);
        x.arc(1, 2, 3, 0, 1).more(2, 0).arc(1, 0, 2, 1, 2).more(1, 1).more(0, 0).more(2, 0);
    }

    private static void promise21NoCut() {
        Run x = run("no CUT").cut(NONE).node(0).cut(NONE).node(1).cut(NONE).arc(0, 1, 0, 0, 0).cut(NONE);
        x.good(0, 1, 1, 0, 0).cut(1).capacity(0, 1, 0).cut(NONE).capacity(0, 2, 1).cut(NONE).demand(0, 2, 1).cut(NONE);
        x.demand(0, 3, 2).cut(1);
    }

    private static void promise21NoArcsLeadOut() {
        Run x = run("a CUT without ARCS").nodes(10).good(0, 9, 1, 0, 0).cut(1).good(9, 0, 1, 0, 1).cut(1);
        x.arc(0, 9, 1000, 0, 0).cut(512).arc(9, 0, 1000, 0, 1).cut(NONE);
    }
}
