import java.math.BigInteger;
import java.util.ArrayList;
import java.util.Arrays;
import java.util.List;

/**
 * The document once more, as slow and plain as can be, to compare with: all ways sorted, all plans
 * looked at, flows by the least of all cuts, rates on big numbers. Nothing is kept but the best plan.
 */
final class PlainGoods {
    private static final int NONE = -1, BAD = -2, FULL = -3;

    private int nodes = 0;
    private final List<int[]> arcs = new ArrayList<>();
    private final List<int[]> goods = new ArrayList<>();
    private final List<Integer> tried = new ArrayList<>();
    private List<List<int[]>> known = null;
    private int[] knownPlan = null;

    private void changed() {
        known = null;
        knownPlan = null;
    }

    private static boolean in(int v, int least, int most) {
        return least <= v && v <= most;
    }

    private boolean twoNodes(int a, int b) {
        return in(a, 0, nodes - 1) && in(b, 0, nodes - 1) && a != b;
    }

    private boolean noArc(int i) {
        return !in(i, 0, arcs.size() - 1);
    }

    private boolean noGood(int g) {
        return !in(g, 0, goods.size() - 1);
    }

    int node() {
        return nodes == 10 ? FULL : nodes++;
    }

    int arc(int a, int b, int capacity, int cost) {
        if (!twoNodes(a, b) || !in(capacity, 0, 1000) || !in(cost, 0, 100)) return BAD;
        if (arcs.size() == 24) return FULL;
        arcs.add(new int[] {a, b, capacity, cost});
        changed();
        return arcs.size() - 1;
    }

    int good(int a, int b, int demand, int worth) {
        if (!twoNodes(a, b) || !in(demand, 1, 1000) || !in(worth, 0, 1000)) return BAD;
        if (goods.size() == 6) return FULL;
        goods.add(new int[] {a, b, demand, worth});
        tried.add(NONE);
        changed();
        return goods.size() - 1;
    }

    private int replace(int[] row, int place, int v) {
        int was = row[place];
        row[place] = v;
        changed();
        return was;
    }

    int capacity(int i, int v) {
        return noArc(i) || !in(v, 0, 1000) ? BAD : replace(arcs.get(i), 2, v);
    }

    int cost(int i, int v) {
        return noArc(i) || !in(v, 0, 100) ? BAD : replace(arcs.get(i), 3, v);
    }

    int demand(int g, int v) {
        return noGood(g) || !in(v, 1, 1000) ? BAD : replace(goods.get(g), 2, v);
    }

    int worth(int g, int v) {
        return noGood(g) || !in(v, 0, 1000) ? BAD : replace(goods.get(g), 3, v);
    }

    // ---- ways: all of them, sorted

    private int costOf(int[] way) {
        int sum = 0;
        for (int i : way) sum += arcs.get(i)[3];
        return sum;
    }

    private void extend(int[] way, List<Integer> visited, int goal, List<int[]> found) {
        int at = visited.get(visited.size() - 1);
        if (at == goal) {
            found.add(way);
            return;
        }
        for (int i = arcs.size() - 1; i >= 0; i--) {
            int[] arc = arcs.get(i);
            if (arc[0] == at && !visited.contains(arc[1])) {
                int[] longer = Arrays.copyOf(way, way.length + 1);
                longer[way.length] = i;
                List<Integer> more = new ArrayList<>(visited);
                more.add(arc[1]);
                extend(longer, more, goal, found);
            }
        }
    }

    private List<int[]> waysOf(int g) {
        if (known == null) {
            known = new ArrayList<>();
            for (int[] good : goods) {
                List<int[]> found = new ArrayList<>();
                extend(new int[0], List.of(good[0]), good[1], found);
                found.sort((p, q) -> costOf(p) != costOf(q) ? costOf(p) - costOf(q) : Arrays.compare(p, q));
                known.add(new ArrayList<>(found.subList(0, Math.min(5, found.size()))));
            }
        }
        return known.get(g);
    }

    int ways(int g) {
        return noGood(g) ? BAD : waysOf(g).size();
    }

    int way(int g, int k, int i) {
        if (noGood(g) || !in(k, 0, waysOf(g).size() - 1)) return BAD;
        int[] way = waysOf(g).get(k);
        if (i == -1) return way.length;
        if (i == -2) return costOf(way);
        return in(i, 0, way.length - 1) ? way[i] : BAD;
    }

    // ---- plans: all of them, written with 5 for none

    private int loadOf(int[] plan, int i) {
        int sum = 0;
        for (int g = 0; g < goods.size(); g++) {
            if (plan[g] < 5) {
                for (int arc : waysOf(g).get(plan[g])) {
                    if (arc == i) sum += goods.get(g)[2];
                }
            }
        }
        return sum;
    }

    private int worthOf(int[] plan) {
        int sum = 0;
        for (int g = 0; g < goods.size(); g++) sum += plan[g] < 5 ? goods.get(g)[3] : 0;
        return sum;
    }

    private int spentOn(int[] plan) {
        int sum = 0;
        for (int g = 0; g < goods.size(); g++) {
            sum += plan[g] < 5 ? goods.get(g)[2] * costOf(waysOf(g).get(plan[g])) : 0;
        }
        return sum;
    }

    private boolean there(int[] plan) {
        for (int g = 0; g < goods.size(); g++) {
            if (plan[g] < 5 && plan[g] >= waysOf(g).size()) return false;
        }
        return true;
    }

    private int firstAbove(int[] plan) {
        for (int i = 0; i < arcs.size(); i++) {
            if (loadOf(plan, i) > arcs.get(i)[2]) return i;
        }
        return NONE;
    }

    private int[] bestPlan() {
        if (knownPlan != null) return knownPlan;
        int all = 1;
        for (int g = 0; g < goods.size(); g++) all *= 6;
        int[] best = null;
        for (int number = 0; number < all; number++) {
            int[] plan = new int[goods.size()];
            int rest = number;
            for (int g = plan.length - 1; g >= 0; g--, rest /= 6) plan[g] = rest % 6;
            if (!there(plan)) continue;
            boolean better = best == null || worthOf(plan) > worthOf(best)
                || worthOf(plan) == worthOf(best) && spentOn(plan) < spentOn(best);
            if (better && firstAbove(plan) == NONE) best = plan;
        }
        knownPlan = best;
        return best;
    }

    int best() {
        return worthOf(bestPlan());
    }

    int spent() {
        return spentOn(bestPlan());
    }

    int plan(int g) {
        if (noGood(g)) return BAD;
        return bestPlan()[g] == 5 ? NONE : bestPlan()[g];
    }

    int load(int i) {
        return noArc(i) ? BAD : loadOf(bestPlan(), i);
    }

    int price(int i, int d) {
        if (noArc(i) || !in(d, 1, 1000)) return BAD;
        int[] before = bestPlan();
        knownPlan = null;
        arcs.get(i)[2] += d;
        int more = worthOf(bestPlan()) - worthOf(before);
        arcs.get(i)[2] -= d;
        knownPlan = before;
        return more;
    }

    int attempt(int g, int k) {
        return noGood(g) || !in(k, -1, 4) ? BAD : tried.set(g, k);
    }

    int attempted(int what) {
        if (!in(what, 0, 2)) return BAD;
        int[] plan = new int[goods.size()];
        for (int g = 0; g < plan.length; g++) plan[g] = tried.get(g) == NONE ? 5 : tried.get(g);
        if (!there(plan)) return NONE;
        return what == 0 ? worthOf(plan) : what == 1 ? spentOn(plan) : firstAbove(plan);
    }

    // ---- rates: {above, below, arc}, null for none

    private boolean goesAlong(int g, int i) {
        if (waysOf(g).isEmpty()) return false;
        for (int arc : waysOf(g).get(0)) {
            if (arc == i) return true;
        }
        return false;
    }

    private BigInteger[][] fairRates() {
        BigInteger[][] rates = new BigInteger[goods.size()][];
        while (true) {
            BigInteger[] least = null;
            for (int i = 0; i < arcs.size(); i++) {
                BigInteger above = BigInteger.valueOf(arcs.get(i)[2]);
                BigInteger below = BigInteger.ONE;
                int open = 0;
                for (int g = 0; g < goods.size(); g++) {
                    if (goesAlong(g, i)) {
                        if (rates[g] == null) {
                            open++;
                        } else {
                            above = above.multiply(rates[g][1]).subtract(rates[g][0].multiply(below));
                            below = below.multiply(rates[g][1]);
                        }
                    }
                }
                if (open == 0) continue;
                below = below.multiply(BigInteger.valueOf(open));
                if (least == null || above.multiply(least[1]).compareTo(least[0].multiply(below)) < 0) {
                    least = new BigInteger[] {above, below, BigInteger.valueOf(i)};
                }
            }
            if (least == null) return rates;
            for (int g = 0; g < goods.size(); g++) {
                if (rates[g] == null && goesAlong(g, least[2].intValueExact())) rates[g] = least;
            }
        }
    }

    int rate(int g, int part) {
        if (noGood(g) || !in(part, 0, 1)) return BAD;
        BigInteger[] rate = fairRates()[g];
        return rate == null ? NONE : rate[part].divide(rate[0].gcd(rate[1])).intValueExact();
    }

    int bottleneck(int g) {
        if (noGood(g)) return BAD;
        BigInteger[] rate = fairRates()[g];
        return rate == null ? NONE : rate[2].intValueExact();
    }

    // ---- flows and cuts: all sets of nodes

    private static boolean leaves(int set, int[] row) {
        return (set & 1 << row[0]) != 0 && (set & 1 << row[1]) == 0;
    }

    int more(int g) {
        if (noGood(g)) return BAD;
        int[] room = new int[arcs.size()];
        for (int i = 0; i < room.length; i++) room[i] = arcs.get(i)[2] - loadOf(bestPlan(), i);
        int least = Integer.MAX_VALUE;
        for (int set = 0; set < 1 << nodes; set++) {
            if (!leaves(set, goods.get(g))) continue;
            int sum = 0;
            for (int i = 0; i < room.length; i++) sum += leaves(set, arcs.get(i)) ? room[i] : 0;
            least = Math.min(least, sum);
        }
        return least;
    }

    int cut() {
        for (int set = 0; set < 1 << nodes; set++) {
            int sum = 0;
            for (int[] good : goods) sum += leaves(set, good) ? good[2] : 0;
            for (int[] arc : arcs) sum -= leaves(set, arc) ? arc[2] : 0;
            if (sum > 0) return set;
        }
        return NONE;
    }

    int count(int what) {
        if (what == 0) return nodes;
        if (what == 1) return arcs.size();
        if (what == 2) return goods.size();
        int sum = 0;
        if (what == 3) {
            for (int[] arc : arcs) sum += arc[2];
            return sum;
        }
        if (what != 4 && what != 5) return BAD;
        for (int[] good : goods) sum += good[what - 2];
        return sum;
    }
}
