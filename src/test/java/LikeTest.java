/** Where two are alike: which way, which plan, which arc, which set comes first. */
public final class LikeTest {
    private static final int NONE = Run.NONE;
    private static final Check check = new Check("LikeTest");

    public static void main(String[] args) {
        waysByCostFirst();
        waysOfLikeCost();
        waysThatDifferAtTheLastPlace();
        waysOfDifferentLength();
        fifthAndSixthWay();
        likeWaysThatChangePlaces();
        plansByWorthFirst();
        plansOfLikeWorth();
        plansOfLikeWorthAndCost();
        plansDifferAtTheFirstGood();
        noneBehindFour();
        sixthWayIsNone();
        bottlenecksOfLikeShares();
        bottleneckBindsItsOwnAlone();
        firstArcAbove();
        cutsOfLikeSets();
        cutsByNumberNotBySize();
        check.end();
    }

    private static Run run(String name) {
        return new Run(check, name);
    }

    private static void waysByCostFirst() {
        Run x = run("WAYS by COST").nodes(3).arc(0, 2, 1, 9, 0).arc(0, 1, 1, 4, 1).arc(1, 2, 1, 4, 2).good(0, 2, 1, 1, 0);
        x.row(0, 0, 8, 1, 2).row(0, 1, 9, 0).cost(0, 8, 9).row(0, 0, 8, 0).row(0, 1, 8, 1, 2);
        x.cost(0, 7, 8).row(0, 0, 7, 0).row(0, 1, 8, 1, 2);
    }

    private static void waysOfLikeCost() {
        Run x = run("WAYS of like COST").nodes(2).good(0, 1, 1, 1, 0);
        for (int i = 0; i < 7; i++) {
            x.arc(0, 1, 1, 5, i);
        }
        for (int k = 0; k < 5; k++) {
            x.row(0, k, 5, k);
        }
        x.ways(0, 5);
    }

    /** The numbers of the arcs decide, not the places of the nodes and not when an arc was put. */
    private static void waysThatDifferAtTheLastPlace() {
        Run x = run("the last place").nodes(3).arc(1, 2, 1, 1, 0).arc(1, 2, 1, 1, 1).arc(0, 1, 1, 1, 2).arc(0, 1, 1, 1, 3);
        x.good(0, 2, 1, 1, 0).ways(0, 4).row(0, 0, 2, 2, 0).row(0, 1, 2, 2, 1).row(0, 2, 2, 3, 0).row(0, 3, 2, 3, 1);
        x.cost(1, 0, 1).row(0, 0, 1, 2, 1).row(0, 1, 1, 3, 1).row(0, 2, 2, 2, 0).row(0, 3, 2, 3, 0);
    }

    /** The first place at which they differ decides, not how many arcs they have. */
    private static void waysOfDifferentLength() {
        Run x = run("long and short").nodes(4).arc(0, 1, 1, 1, 0).arc(0, 3, 1, 3, 1).arc(1, 2, 1, 1, 2).arc(2, 3, 1, 1, 3);
        x.arc(1, 3, 1, 2, 4).good(0, 3, 1, 1, 0).ways(0, 3).row(0, 0, 3, 0, 2, 3).row(0, 1, 3, 0, 4).row(0, 2, 3, 1);
    }

    private static void fifthAndSixthWay() {
        Run x = run("the fifth and the sixth").nodes(3).arc(0, 1, 1, 2, 0).arc(1, 2, 1, 2, 1).good(0, 2, 1, 1, 0);
        for (int i = 2; i < 6; i++) {
            x.arc(0, 2, 1, 1, i);
        }
        x.ways(0, 5).row(0, 4, 4, 0, 1).arc(0, 2, 1, 4, 6).ways(0, 5).row(0, 4, 4, 0, 1);
        x.cost(6, 3, 4).row(0, 4, 3, 6).cost(6, 5, 3).row(0, 4, 4, 0, 1).cost(0, 3, 2).row(0, 4, 5, 0, 1);
        x.cost(0, 4, 3).row(0, 4, 5, 6).cost(6, 0, 5).row(0, 0, 0, 6).row(0, 4, 1, 5).cost(6, 1, 0).row(0, 4, 1, 6);
    }

    private static void likeWaysThatChangePlaces() {
        Run x = run("TRIED by number").nodes(2).arc(0, 1, 1, 3, 0).arc(0, 1, 9, 4, 1).good(0, 1, 2, 7, 0);
        x.attempt(0, 0, NONE).tried(7, 6, 0).cost(1, 3, 4).tried(7, 6, 0).cost(1, 2, 3).tried(7, 4, NONE);
        x.attempt(0, 1, 0).tried(7, 6, 0).cost(0, 2, 3).tried(7, 4, NONE).cost(0, 1, 2).tried(7, 4, NONE);
    }

    private static void plansByWorthFirst() {
        Run x = run("the most WORTH").nodes(2).arc(0, 1, 4, 100, 0).good(0, 1, 1, 9, 0).good(0, 1, 4, 10, 1);
        x.plans(10, 400, NONE, 0).worth(0, 10, 9).plans(10, 100, 0, NONE).worth(0, 11, 10).plans(11, 100, 0, NONE);
        // One more of worth is more than any cost.
        x.worth(0, 0, 11).worth(1, 1, 10).demand(1, 4, 4).plans(1, 400, NONE, 0).worth(1, 0, 1).plans(0, 0, NONE, NONE);
    }

    private static void plansOfLikeWorth() {
        Run x = run("the least COST").nodes(2).arc(0, 1, 3, 2, 0).arc(0, 1, 9, 3, 1).good(0, 1, 3, 5, 0).good(0, 1, 2, 5, 1);
        // Good 0 cheap: 3 * 2 + 2 * 3 = 12; good 1 cheap: 2 * 2 + 3 * 3 = 13.
        x.plans(10, 12, 0, 1).demand(1, 3, 2).plans(10, 15, 0, 1).demand(0, 2, 3).plans(10, 12, 1, 0);
    }

    private static void plansOfLikeWorthAndCost() {
        Run x = run("like WORTH, like COST").nodes(2).arc(0, 1, 2, 1, 0).arc(0, 1, 2, 1, 1).arc(0, 1, 2, 1, 2);
        x.good(0, 1, 1, 5, 0).good(0, 1, 2, 5, 1).good(0, 1, 1, 5, 2).plans(15, 4, 0, 1, 0);
        x.demand(2, 2, 1).plans(15, 5, 0, 1, 2).capacity(0, 1, 2).plans(15, 5, 0, 1, 2);
        x.capacity(1, 1, 2).plans(10, 3, 0, 2, NONE).capacity(0, 0, 1).plans(10, 3, 1, 2, NONE);
    }

    /** The first good at which plans differ decides: a lesser way there, whatever comes behind it. */
    private static void plansDifferAtTheFirstGood() {
        Run x = run("the first GOOD decides").nodes(2).arc(0, 1, 1, 0, 0).arc(0, 1, 1, 0, 1);
        x.good(0, 1, 1, 0, 0).good(0, 1, 1, 0, 1).good(0, 1, 1, 0, 2).plans(0, 0, 0, 1, NONE);
        x.worth(2, 1, 0).plans(1, 0, 0, NONE, 1).worth(1, 1, 0).plans(2, 0, NONE, 0, 1);
        x.worth(0, 1, 0).plans(2, 0, 0, 1, NONE);
    }

    private static void noneBehindFour() {
        Run x = run("none behind 4").nodes(2).good(0, 1, 1, 0, 0).good(0, 1, 1, 0, 1);
        for (int i = 0; i < 5; i++) {
            x.arc(0, 1, i == 4 ? 1 : 0, 0, i);
        }
        x.plans(0, 0, 4, NONE).load(4, 1).capacity(3, 1, 0).plans(0, 0, 3, 4).capacity(4, 0, 1).plans(0, 0, 3, NONE);
        // A cost of one is enough for none, where the worth is the same.
        x.cost(3, 1, 0).plans(0, 0, NONE, NONE).load(3, 0).worth(1, 1, 0).plans(1, 1, NONE, 4).load(3, 1);
    }

    private static void sixthWayIsNone() {
        Run x = run("a sixth WAY").nodes(2).good(0, 1, 1, 9, 0);
        for (int i = 0; i < 6; i++) {
            x.arc(0, 1, i == 5 ? 1 : 0, 0, i);
        }
        x.plans(0, 0, NONE).load(5, 0).more(0, 1).cut(NONE).price(5, 1, 0).price(4, 1, 9).attempt(0, 4, NONE).tried(9, 0, 4);
        x.cost(0, 1, 0).plans(9, 0, 4).load(5, 1).more(0, 0).tried(9, 0, NONE);
    }

    private static void bottlenecksOfLikeShares() {
        Run x = run("like shares").nodes(3).arc(1, 2, 4, 1, 0).arc(0, 1, 4, 1, 1).good(0, 2, 1, 1, 0).fair(0, 4, 1, 0);
        x.capacity(0, 5, 4).fair(0, 4, 1, 1).capacity(0, 3, 5).fair(0, 3, 1, 0).capacity(0, 4, 3);
        // 4 / 2 on arc 1; with 2 on arc 0 they are alike, though written in different ways.
        x.good(0, 1, 1, 1, 1).fair(0, 2, 1, 1).fair(1, 2, 1, 1).capacity(0, 2, 4).fair(0, 2, 1, 0).fair(1, 2, 1, 1);
        x.capacity(0, 3, 2).bottleneck(0, 1).capacity(0, 1, 3).bottleneck(0, 0).bottleneck(1, 1).fair(0, 1, 1, 0).fair(1, 3, 1, 1);
    }

    /** Of two arcs with like shares the first binds its goods, the other one those that are left. */
    private static void bottleneckBindsItsOwnAlone() {
        Run x = run("each its own").nodes(4).arc(2, 3, 3, 1, 0).arc(1, 2, 3, 1, 1).arc(0, 1, 3, 1, 2);
        x.good(0, 1, 1, 1, 0).good(1, 2, 1, 1, 1).good(2, 3, 1, 1, 2).good(0, 3, 1, 1, 3);
        x.fair(2, 3, 2, 0).fair(3, 3, 2, 0).fair(1, 3, 2, 1).fair(0, 3, 2, 2);
    }

    private static void firstArcAbove() {
        Run x = run("the first ARC above").nodes(3).arc(1, 2, 3, 1, 0).arc(0, 1, 3, 1, 1).good(0, 2, 4, 1, 0);
        x.attempt(0, 0, NONE).attempted(2, 0).capacity(0, 4, 3).attempted(2, 1).capacity(1, 4, 3).attempted(2, NONE);
        x.capacity(0, 3, 4).attempted(2, 0).demand(0, 3, 4).attempted(2, NONE);
    }

    private static void cutsOfLikeSets() {
        Run x = run("the least CUT").nodes(4).good(3, 0, 1, 1, 0).cut(8).good(2, 0, 1, 1, 1).cut(4).good(1, 0, 1, 1, 2).cut(2);
        x.good(0, 1, 1, 1, 3).cut(1).arc(0, 1, 1, 1, 0).cut(2).arc(1, 0, 1, 1, 1).cut(4).arc(2, 0, 1, 1, 2).cut(8);
        x.arc(3, 0, 1, 1, 3).cut(NONE);
    }

    /** A set of many small nodes comes ahead of one large node. */
    private static void cutsByNumberNotBySize() {
        Run x = run("CUTS by number").nodes(4).good(3, 1, 1, 1, 0).good(0, 3, 5, 1, 1).arc(0, 1, 9, 1, 0).arc(1, 2, 9, 1, 1);
        x.arc(2, 3, 4, 1, 2).cut(7).capacity(2, 5, 4).cut(8).arc(3, 0, 1, 1, 3).cut(NONE).capacity(1, 4, 9).cut(3);
        x.capacity(0, 4, 9).cut(1);
    }
}
