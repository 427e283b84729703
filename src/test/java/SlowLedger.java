import java.util.ArrayList;
import java.util.Comparator;
import java.util.List;

/**
 * The document once more, as slow and as near to its words as can be. Where the class shifts money along
 * chains of pots, this one takes the least over all sets of pots, as the document says it of payable.
 */
final class SlowLedger {
    private record Fund(int number, int allowed, int lastDay, int ceiling) {
    }

    private record Commitment(int id, int fund, int category, int until) {
    }

    private record Cost(int category, int day) {
    }

    /** The commitment is -1 for free money. */
    private record Pot(int day, int fund, int commitment, long money) {
    }

    private int today = 0;
    private int made = 0;
    private final List<Fund> funds = new ArrayList<>();
    private final List<Commitment> standing = new ArrayList<>();
    private final List<Cost> costs = new ArrayList<>();
    private final int[] free = new int[6];
    private final int[] direct = new int[6];
    private final int[] overhead = new int[6];
    private final int[] left = new int[1000];
    private final int[] unpaid = new int[16];
    private final int[][] paid = new int[16][6];

    int addFund(int amount, int allowed, int lastDay, int ceiling) {
        range(amount, 0, 99999);
        range(allowed, 0, 255);
        range(lastDay, 0, 999);
        range(ceiling, 0, 100);
        state(funds.size() < 6);
        free[funds.size()] = amount;
        funds.add(new Fund(funds.size(), allowed, lastDay, ceiling));
        return funds.size() - 1;
    }

    int deposit(int fund, int amount) {
        index(fund, funds.size());
        range(amount, 1, 99999);
        return free[fund] += amount;
    }

    int commit(int fund, int category, int amount, int until) {
        index(fund, funds.size());
        range(category, 0, 7);
        range(amount, 1, 99999);
        range(until, today, 999);
        state(allows(funds.get(fund), category) && free[fund] >= amount && standing.size() < 6);
        free[fund] -= amount;
        left[made] = amount;
        standing.add(new Commitment(made++, fund, category, until));
        return standing.size();
    }

    int cancel(int commitment) {
        index(commitment, standing.size());
        Commitment ended = standing.remove(commitment);
        free[ended.fund] += left[ended.id];
        return left[ended.id];
    }

    int advance(int days) {
        range(days, 1, 999);
        range(today + days, 0, 999);
        today += days;
        int before = standing.size();
        for (Commitment c : standing) {
            free[c.fund] += c.until < today ? left[c.id] : 0;
        }
        standing.removeIf(c -> c.until < today);
        return before - standing.size();
    }

    int addCost(int category, int day, int amount) {
        range(category, 0, 7);
        range(day, 0, today);
        range(amount, 1, 99999);
        state(costs.size() < 16);
        unpaid[costs.size()] = amount;
        costs.add(new Cost(category, day));
        return costs.size() - 1;
    }

    int charge() {
        List<Pot> pots = pots();
        long[][] way = theWay(pots);
        int sum = 0;
        for (int c = 0; c < costs.size(); c++) {
            for (int p = 0; p < pots.size(); p++) {
                int amount = (int) way[c][p];
                Pot pot = pots.get(p);
                if (pot.commitment < 0) {
                    free[pot.fund] -= amount;
                } else {
                    left[standing.get(pot.commitment).id] -= amount;
                }
                direct[pot.fund] += amount;
                paid[c][pot.fund] += amount;
                unpaid[c] -= amount;
                sum += amount;
            }
        }
        standing.removeIf(c -> left[c.id] == 0);
        return sum;
    }

    int chargeOverhead(int amount) {
        range(amount, 1, 99999);
        int rest = amount;
        while (rest > 0 && !withRoom().isEmpty()) {
            List<Fund> sharing = withRoom();
            long s = sharing.stream().mapToLong(f -> direct[f.number]).sum();
            int n = rest;
            for (Fund f : sharing) {
                rest -= give(f, (int) Math.min(roomOf(f.number), (long) n * direct[f.number] / s));
            }
            for (Fund f : rest == n ? sharing : List.<Fund>of()) {
                rest -= give(f, Math.min(rest, 1));
            }
        }
        return amount - rest;
    }

    private List<Fund> withRoom() {
        return funds.stream().filter(f -> roomOf(f.number) > 0).toList();
    }

    private int give(Fund f, int amount) {
        free[f.number] -= amount;
        overhead[f.number] += amount;
        return amount;
    }

    int today() {
        return today;
    }

    int funds() {
        return funds.size();
    }

    int freeOf(int fund) {
        index(fund, funds.size());
        return free[fund];
    }

    int committedOf(int fund) {
        index(fund, funds.size());
        return standing.stream().filter(c -> c.fund == fund).mapToInt(c -> left[c.id]).sum();
    }

    int directOf(int fund) {
        index(fund, funds.size());
        return direct[fund];
    }

    int overheadOf(int fund) {
        index(fund, funds.size());
        return overhead[fund];
    }

    int roomOf(int fund) {
        index(fund, funds.size());
        long most = (long) direct[fund] * funds.get(fund).ceiling / 100;
        return most <= overhead[fund] ? 0 : (int) Math.min(most - overhead[fund], free[fund]);
    }

    int commitments() {
        return standing.size();
    }

    int fundOf(int commitment) {
        index(commitment, standing.size());
        return standing.get(commitment).fund;
    }

    int leftOf(int commitment) {
        index(commitment, standing.size());
        return left[standing.get(commitment).id];
    }

    int untilOf(int commitment) {
        index(commitment, standing.size());
        return standing.get(commitment).until;
    }

    int costs() {
        return costs.size();
    }

    int unpaidOf(int cost) {
        index(cost, costs.size());
        return unpaid[cost];
    }

    int paidBy(int cost, int fund) {
        index(cost, costs.size());
        index(fund, funds.size());
        return paid[cost][fund];
    }

    int payable() {
        long sum = 0;
        for (long amount : costTotals(pots())) {
            sum += amount;
        }
        return (int) sum;
    }

    int wouldPay(int cost) {
        index(cost, costs.size());
        return (int) costTotals(pots())[cost];
    }

    int wouldTake(int fund) {
        index(fund, funds.size());
        List<Pot> pots = pots();
        long[] taken = potTotals(pots, costTotals(pots));
        long sum = 0;
        for (int p = 0; p < pots.size(); p++) {
            sum += pots.get(p).fund == fund ? taken[p] : 0;
        }
        return (int) sum;
    }

    int reason(int cost) {
        index(cost, costs.size());
        Cost asked = costs.get(cost);
        if (unpaid[cost] == 0) {
            return 0;
        }
        if (funds.stream().noneMatch(f -> allows(f, asked.category))) {
            return 1;
        }
        if (funds.stream().noneMatch(f -> suits(f, asked))) {
            return 2;
        }
        if (pots().stream().anyMatch(p -> p.money > 0 && mayPay(p, asked))) {
            return 3;
        }
        boolean held = standing.stream().anyMatch(c -> left[c.id] > 0 && suits(funds.get(c.fund), asked));
        return held ? 4 : 5;
    }

    // ---- who may pay

    private static boolean allows(Fund fund, int category) {
        return (fund.allowed & 1 << category) != 0;
    }

    private static boolean suits(Fund fund, Cost cost) {
        return allows(fund, cost.category) && cost.day <= fund.lastDay;
    }

    private boolean mayPay(Pot pot, Cost cost) {
        boolean asked = pot.commitment < 0 || standing.get(pot.commitment).category == cost.category;
        return asked && suits(funds.get(pot.fund), cost);
    }

    private List<Pot> pots() {
        List<Pot> pots = new ArrayList<>();
        for (Fund f : funds) {
            pots.add(new Pot(f.lastDay, f.number, -1, free[f.number]));
        }
        for (int k = 0; k < standing.size(); k++) {
            Commitment c = standing.get(k);
            pots.add(new Pot(c.until, c.fund, k, left[c.id]));
        }
        pots.sort(Comparator.comparingInt(Pot::day)
                .thenComparing(p -> p.commitment < 0)
                .thenComparingInt(Pot::commitment)
                .thenComparingInt(Pot::fund));
        return pots;
    }

    // ---- the one way, by sets of pots

    /** For each pot the set of costs that it may pay for. */
    private int[] reach(List<Pot> pots) {
        int[] reach = new int[pots.size()];
        for (int p = 0; p < reach.length; p++) {
            for (int c = 0; c < costs.size(); c++) {
                reach[p] |= mayPay(pots.get(p), costs.get(c)) ? 1 << c : 0;
            }
        }
        return reach;
    }

    /** The greatest amount that pots with this money can pay of costs with these amounts, together. */
    private static long most(long[] money, long[] amounts, int[] reach) {
        long least = Long.MAX_VALUE;
        for (int set = 0; set < 1 << money.length; set++) {
            long sum = 0;
            int outside = 0;
            for (int p = 0; p < money.length; p++) {
                sum += (set >> p & 1) != 0 ? money[p] : 0;
                outside |= (set >> p & 1) != 0 ? 0 : reach[p];
            }
            least = Math.min(least, sum + sumOf(outside, amounts));
        }
        return least;
    }

    private static long sumOf(int set, long[] amounts) {
        long sum = 0;
        for (int c = 0; c < amounts.length; c++) {
            sum += (set >> c & 1) != 0 ? amounts[c] : 0;
        }
        return sum;
    }

    private long[] costTotals(List<Pot> pots) {
        long[] money = pots.stream().mapToLong(Pot::money).toArray();
        long[] amounts = new long[costs.size()];
        long[] totals = new long[costs.size()];
        long before = 0;
        for (int c = 0; c < costs.size(); c++) {
            amounts[c] = unpaid[c];
            long now = most(money, amounts, reach(pots));
            totals[c] = now - before;
            before = now;
        }
        return totals;
    }

    private long[] potTotals(List<Pot> pots, long[] costTotals) {
        long[] money = new long[pots.size()];
        long[] totals = new long[pots.size()];
        long before = 0;
        for (int p = 0; p < pots.size(); p++) {
            money[p] = pots.get(p).money;
            long now = most(money, costTotals, reach(pots));
            totals[p] = now - before;
            before = now;
        }
        return totals;
    }

    private long[][] theWay(List<Pot> pots) {
        long[] costLeft = costTotals(pots);
        long[] potLeft = potTotals(pots, costLeft);
        int[] reach = reach(pots);
        long[][] way = new long[costs.size()][pots.size()];
        for (int c = 0; c < costs.size(); c++) {
            for (int p = 0; p < pots.size(); p++) {
                if ((reach[p] >> c & 1) != 0) {
                    reach[p] &= ~(1 << c);
                    way[c][p] = mostFrom(p, c, potLeft, costLeft, reach);
                    potLeft[p] -= way[c][p];
                    costLeft[c] -= way[c][p];
                }
            }
        }
        return way;
    }

    /** What a pot can pay of a cost at most, when all of both the pots' and the costs' totals is to be paid. */
    private static long mostFrom(int pot, int cost, long[] potLeft, long[] costLeft, int[] others) {
        long least = Math.min(potLeft[pot], costLeft[cost]);
        for (int set = 0; set < 1 << potLeft.length; set++) {
            long sum = 0;
            int near = 0;
            for (int p = 0; p < potLeft.length; p++) {
                sum += (set >> p & 1) != 0 ? potLeft[p] : 0;
                near |= (set >> p & 1) != 0 ? others[p] : 0;
            }
            if ((set >> pot & 1) == 0 && (near >> cost & 1) != 0) {
                least = Math.min(least, sumOf(near, costLeft) - sum);
            }
        }
        return least;
    }

    // ---- what is thrown

    private static void index(int number, int count) {
        if (number < 0 || number >= count) {
            throw new IndexOutOfBoundsException();
        }
    }

    private static void range(int number, int least, int most) {
        if (number < least || number > most) {
            throw new IllegalArgumentException();
        }
    }

    private static void state(boolean holds) {
        if (!holds) {
            throw new IllegalStateException();
        }
    }
}
