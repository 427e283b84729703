import java.util.ArrayList;
import java.util.List;

/**
 * Promises 8 and 24 to 26, by the words of "Charging" alone: of all ways to charge a small ledger,
 * written down one by one, the one that the document takes is due.
 */
public final class AllWaysTest {
    private static final int LEDGERS = 20000;

    private final RestrictedFunds ledger = new RestrictedFunds();
    /** Each pot as day, 0 for a commitment or 1, number, fund, category or -1, money. */
    private final List<int[]> pots = new ArrayList<>();
    private final List<int[]> funds = new ArrayList<>();
    /** Each cost as category, day, amount. */
    private final List<int[]> costs = new ArrayList<>();
    private int[][] best;
    private int[] bestRank;
    private final Draws draws;

    private AllWaysTest(int number) {
        draws = new Draws(number * 104729L + 5);
    }

    public static void main(String[] args) {
        for (int number = 0; number < LEDGERS; number++) {
            new AllWaysTest(number).compare("ledger " + number + ": ");
        }
        Check.finish("AllWaysTest");
    }

    private void compare(String where) {
        fill();
        pots.sort((a, b) -> a[0] != b[0] ? a[0] - b[0] : a[1] != b[1] ? a[1] - b[1] : a[2] - b[2]);
        tryAll(new int[costs.size()][pots.size()], 0);
        int sum = 0;
        for (int c = 0; c < costs.size(); c++) {
            int paid = 0;
            for (int p = 0; p < pots.size(); p++) {
                paid += best[c][p];
            }
            sum += paid;
            due(where, paid, "wouldPay", c);
        }
        due(where, sum, "payable");
        for (int f = 0; f < funds.size(); f++) {
            due(where, takenBy(f), "wouldTake", f);
        }
        due(where, sum, "charge");
        compareBooks(where);
    }

    private void compareBooks(String where) {
        for (int f = 0; f < funds.size(); f++) {
            due(where, takenBy(f), "directOf", f);
            for (int c = 0; c < costs.size(); c++) {
                int paid = 0;
                for (int p = 0; p < pots.size(); p++) {
                    paid += pots.get(p)[3] == f ? best[c][p] : 0;
                }
                due(where, paid, "paidBy", c, f);
            }
        }
        for (int p = 0; p < pots.size(); p++) {
            if (pots.get(p)[1] == 1) {
                due(where, leftOf(p), "freeOf", pots.get(p)[3]);
            } else if (leftOf(p) > 0) {
                due(where, leftOf(p), "leftOf", numberAfterwards(pots.get(p)[2]));
            }
        }
    }

    private int numberAfterwards(int number) {
        int standing = 0;
        for (int p = 0; p < pots.size(); p++) {
            standing += pots.get(p)[1] == 0 && pots.get(p)[2] < number && leftOf(p) > 0 ? 1 : 0;
        }
        return standing;
    }

    private int leftOf(int pot) {
        int left = pots.get(pot)[5];
        for (int[] amounts : best) {
            left -= amounts[pot];
        }
        return left;
    }

    private int takenBy(int fund) {
        int taken = 0;
        for (int p = 0; p < pots.size(); p++) {
            taken += pots.get(p)[3] == fund ? pots.get(p)[5] - leftOf(p) : 0;
        }
        return taken;
    }

    private void due(String where, int answer, String method, int... numbers) {
        Check.same(where + Check.told(method, numbers), Check.ask(ledger, method, numbers), String.valueOf(answer));
    }

    /** Two funds with up to two commitments, or three funds with one; two or three costs. */
    private void fill() {
        ledger.advance(2);
        int fundCount = 2 + draws.below(2);
        for (int f = 0; f < fundCount; f++) {
            int[] fund = {draws.below(4), 1 + draws.below(7), draws.below(4)};
            funds.add(fund);
            ledger.addFund(fund[0], fund[1], fund[2], 0);
        }
        int committed = 0;
        for (int k = 0; k < 6 && committed < 4 - fundCount; k++) {
            int f = draws.below(fundCount);
            int category = draws.below(3);
            int until = 2 + draws.below(3);
            if ((funds.get(f)[1] >> category & 1) != 0 && funds.get(f)[0] > 0) {
                int amount = 1 + draws.below(funds.get(f)[0]);
                ledger.commit(f, category, amount, until);
                funds.get(f)[0] -= amount;
                pots.add(new int[] {until, 0, committed++, f, category, amount});
            }
        }
        for (int f = 0; f < fundCount; f++) {
            pots.add(new int[] {funds.get(f)[2], 1, f, f, -1, funds.get(f)[0]});
        }
        for (int c = 0; c < 3; c++) {
            int[] cost = {draws.below(3), draws.below(3), 1 + draws.below(3)};
            costs.add(cost);
            ledger.addCost(cost[0], cost[1], cost[2]);
        }
    }

    private boolean mayPay(int[] pot, int[] cost) {
        int[] fund = funds.get(pot[3]);
        boolean suits = (fund[1] >> cost[0] & 1) != 0 && cost[1] <= fund[2];
        return suits && (pot[4] == -1 || pot[4] == cost[0]);
    }

    private void tryAll(int[][] way, int place) {
        int c = place / pots.size();
        int p = place % pots.size();
        if (c == costs.size()) {
            keepIfBetter(way);
            return;
        }
        int most = mayPay(pots.get(p), costs.get(c)) ? Math.min(potRest(way, p), costRest(way, c)) : 0;
        for (int amount = 0; amount <= most; amount++) {
            way[c][p] = amount;
            tryAll(way, place + 1);
        }
        way[c][p] = 0;
    }

    private int potRest(int[][] way, int pot) {
        int rest = pots.get(pot)[5];
        for (int[] amounts : way) {
            rest -= amounts[pot];
        }
        return rest;
    }

    private int costRest(int[][] way, int cost) {
        int rest = costs.get(cost)[2];
        for (int amount : way[cost]) {
            rest -= amount;
        }
        return rest;
    }

    private void keepIfBetter(int[][] way) {
        int[] rank = rank(way);
        if (best == null || isAbove(rank, bestRank)) {
            bestRank = rank;
            best = new int[way.length][];
            for (int c = 0; c < way.length; c++) {
                best[c] = way[c].clone();
            }
        }
    }

    private static boolean isAbove(int[] rank, int[] other) {
        for (int k = 0; k < rank.length; k++) {
            if (rank[k] != other[k]) {
                return rank[k] > other[k];
            }
        }
        return false;
    }

    /** What the document looks at, in its order: costs, pots, then each cost by each pot. */
    private int[] rank(int[][] way) {
        int[] rank = new int[costs.size() + pots.size() + costs.size() * pots.size()];
        int at = 0;
        for (int c = 0; c < costs.size(); c++) {
            rank[at++] = costs.get(c)[2] - costRest(way, c);
        }
        for (int p = 0; p < pots.size(); p++) {
            rank[at++] = pots.get(p)[5] - potRest(way, p);
        }
        for (int[] amounts : way) {
            for (int amount : amounts) {
                rank[at++] = amount;
            }
        }
        return rank;
    }
}
