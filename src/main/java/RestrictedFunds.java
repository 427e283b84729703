import java.util.ArrayList;

/**
 * A ledger of restricted money. Funds pay for some categories of costs, up to a last day;
 * parts of them can be committed to a category until a day; overhead is charged on top.
 */
public final class RestrictedFunds {
    public static final int PAID = 0, NO_FUND = 1, TOO_LATE = 2, CHARGEABLE = 3, HELD = 4, SPENT = 5;

    private static final int MAX_FUNDS = 6;
    private static final int MAX_COMMITMENTS = 6;
    private static final int MAX_COSTS = 16;
    private static final int MAX_POTS = MAX_FUNDS + MAX_COMMITMENTS;
    private static final int MAX_AMOUNT = 99999;
    private static final int MAX_DAY = 999;
    private static final int MAX_CATEGORY = 7;
    private static final int MAX_CATEGORY_SET = 255;
    private static final int HUNDREDTHS = 100;

    private final ArrayList<Fund> funds = new ArrayList<>();
    private final ArrayList<Commitment> commitments = new ArrayList<>();
    private final ArrayList<Cost> costs = new ArrayList<>();
    /** In the document's order; lined up anew whenever it is used. */
    private final ArrayList<Pot> pots = new ArrayList<>();
    private final Plan plan = new Plan();
    private int today;

    public RestrictedFunds() {
        today = 0;
    }

    // ---- funds and commitments

    public int addFund(int amount, int allowed, int lastDay, int ceiling)
            throws IllegalArgumentException, IllegalStateException {
        requireRange(amount, 0, MAX_AMOUNT);
        requireRange(allowed, 0, MAX_CATEGORY_SET);
        requireRange(lastDay, 0, MAX_DAY);
        requireRange(ceiling, 0, HUNDREDTHS);
        requireState(funds.size() < MAX_FUNDS);
        int number = funds.size();
        funds.add(new Fund(number, amount, allowed, lastDay, ceiling));
        return number;
    }

    public int deposit(int fund, int amount) throws IndexOutOfBoundsException, IllegalArgumentException {
        Fund receiver = fundAt(fund);
        requireRange(amount, 1, MAX_AMOUNT);
        receiver.money += amount;
        return receiver.money;
    }

    public int commit(int fund, int category, int amount, int until)
            throws IndexOutOfBoundsException, IllegalArgumentException, IllegalStateException {
        Fund giver = fundAt(fund);
        requireRange(category, 0, MAX_CATEGORY);
        requireRange(amount, 1, MAX_AMOUNT);
        requireRange(until, today, MAX_DAY);
        requireState(giver.allows(category));
        requireState(giver.money >= amount);
        requireState(commitments.size() < MAX_COMMITMENTS);
        giver.money -= amount;
        commitments.add(new Commitment(giver, category, amount, until));
        return commitments.size();
    }

    public int cancel(int commitment) throws IndexOutOfBoundsException {
        int freed = commitmentAt(commitment).money;
        endCommitment(commitment);
        return freed;
    }

    public int advance(int days) throws IllegalArgumentException {
        requireRange(days, 1, MAX_DAY);
        requireRange(today + days, 1, MAX_DAY);
        today += days;
        return lapseCommitments();
    }

    // ---- costs

    public int addCost(int category, int day, int amount) throws IllegalArgumentException, IllegalStateException {
        requireRange(category, 0, MAX_CATEGORY);
        requireRange(day, 0, today);
        requireRange(amount, 1, MAX_AMOUNT);
        requireState(costs.size() < MAX_COSTS);
        costs.add(new Cost(category, day, amount));
        return costs.size() - 1;
    }

    public int charge() {
        preparePlan();
        plan.payCosts();
        plan.drawOnPots();
        plan.spreadCosts();
        int paid = plan.paidInAll();
        bookPlan();
        endEmptyCommitments();
        return paid;
    }

    public int chargeOverhead(int amount) throws IllegalArgumentException {
        requireRange(amount, 1, MAX_AMOUNT);
        int left = amount;
        boolean shared = true;
        // A round that shares anything takes at least 1, so there are no more rounds than the amount.
        for (int round = 0; round < amount && shared && left > 0; round++) {
            int taken = shareByDirectCosts(left);
            if (taken == 0) {
                taken = shareOnes(left);
            }
            left -= taken;
            shared = taken > 0;
        }
        return amount - left;
    }

    // ---- the ledger

    public int today() {
        return today;
    }

    public int funds() {
        return funds.size();
    }

    public int freeOf(int fund) throws IndexOutOfBoundsException {
        return fundAt(fund).money;
    }

    public int committedOf(int fund) throws IndexOutOfBoundsException {
        Fund giver = fundAt(fund);
        int committed = 0;
        for (int k = 0; k < commitments.size(); k++) {
            Commitment commitment = commitments.get(k);
            if (commitment.owner() == giver) {
                committed += commitment.money;
            }
        }
        return committed;
    }

    public int directOf(int fund) throws IndexOutOfBoundsException {
        return fundAt(fund).direct;
    }

    public int overheadOf(int fund) throws IndexOutOfBoundsException {
        return fundAt(fund).overhead;
    }

    public int roomOf(int fund) throws IndexOutOfBoundsException {
        return fundAt(fund).room();
    }

    public int commitments() {
        return commitments.size();
    }

    public int fundOf(int commitment) throws IndexOutOfBoundsException {
        return commitmentAt(commitment).owner().number;
    }

    public int leftOf(int commitment) throws IndexOutOfBoundsException {
        return commitmentAt(commitment).money;
    }

    public int untilOf(int commitment) throws IndexOutOfBoundsException {
        return commitmentAt(commitment).expiry();
    }

    public int costs() {
        return costs.size();
    }

    public int unpaidOf(int cost) throws IndexOutOfBoundsException {
        return costAt(cost).unpaid;
    }

    public int paidBy(int cost, int fund) throws IndexOutOfBoundsException {
        Cost asked = costAt(cost);
        return asked.shareOf(fundAt(fund));
    }

    // ---- what would be, and why

    public int payable() {
        preparePlan();
        plan.payCosts();
        return plan.paidInAll();
    }

    public int wouldPay(int cost) throws IndexOutOfBoundsException {
        Cost asked = costAt(cost);
        preparePlan();
        plan.payCosts();
        return asked.unpaid - plan.leftOfCost(cost);
    }

    public int wouldTake(int fund) throws IndexOutOfBoundsException {
        Fund asked = fundAt(fund);
        preparePlan();
        plan.payCosts();
        plan.drawOnPots();
        int taken = 0;
        for (int k = 0; k < pots.size(); k++) {
            Pot pot = pots.get(k);
            if (pot.owner() == asked) {
                taken += pot.money - plan.leftOfPot(k);
            }
        }
        return taken;
    }

    public int reason(int cost) throws IndexOutOfBoundsException {
        Cost asked = costAt(cost);
        if (asked.unpaid == 0) {
            return PAID;
        }
        if (!isAllowedBySomeFund(asked)) {
            return NO_FUND;
        }
        if (!isSuitedBySomeFund(asked)) {
            return TOO_LATE;
        }
        if (isPayableFromSomePot(asked)) {
            return CHARGEABLE;
        }
        return isHeldInCommitment(asked) ? HELD : SPENT;
    }

    // ---- inside: what calls are asked with

    private static void requireRange(int number, int least, int most) {
        if (number < least || number > most) {
            throw new IllegalArgumentException("a number is out of range");
        }
    }

    private static void requireState(boolean holds) {
        if (!holds) {
            throw new IllegalStateException("the ledger does not allow this now");
        }
    }

    private Fund fundAt(int number) {
        if (number < 0 || number >= funds.size()) {
            throw new IndexOutOfBoundsException("there is no such fund");
        }
        return funds.get(number);
    }

    private Commitment commitmentAt(int number) {
        if (number < 0 || number >= commitments.size()) {
            throw new IndexOutOfBoundsException("there is no such commitment");
        }
        return commitments.get(number);
    }

    private Cost costAt(int number) {
        if (number < 0 || number >= costs.size()) {
            throw new IndexOutOfBoundsException("there is no such cost");
        }
        return costs.get(number);
    }

    // ---- inside: the end of commitments

    private void endCommitment(int number) {
        if (number < 0 || number >= commitments.size()) {
            return;
        }
        Commitment ended = commitments.get(number);
        ended.owner().money += ended.money;
        commitments.remove(number);
    }

    private int lapseCommitments() {
        int lapsed = 0;
        // From behind, so that those still to be looked at keep their numbers.
        for (int k = commitments.size() - 1; k >= 0; k--) {
            if (commitments.get(k).expiry() < today) {
                endCommitment(k);
                lapsed++;
            }
        }
        return lapsed;
    }

    private void endEmptyCommitments() {
        for (int k = commitments.size() - 1; k >= 0; k--) {
            if (commitments.get(k).money == 0) {
                endCommitment(k);
            }
        }
    }

    // ---- inside: charging

    private void preparePlan() {
        lineUpPots();
        plan.begin(pots.size(), costs.size());
        for (int k = 0; k < costs.size(); k++) {
            plan.setCost(k, costs.get(k).unpaid);
        }
        for (int k = 0; k < pots.size(); k++) {
            Pot pot = pots.get(k);
            plan.setPot(k, pot.money, costsThatMayBePaidBy(pot));
        }
    }

    private void lineUpPots() {
        pots.clear();
        // Commitments go first, and each pot behind those of its day: so equal days keep the document's order.
        for (int k = 0; k < commitments.size(); k++) {
            lineUp(commitments.get(k));
        }
        for (int k = 0; k < funds.size(); k++) {
            lineUp(funds.get(k));
        }
    }

    private void lineUp(Pot pot) {
        int place = 0;
        while (place < pots.size() && pots.get(place).expiry() <= pot.expiry()) {
            place++;
        }
        pots.add(place, pot);
    }

    private int costsThatMayBePaidBy(Pot pot) {
        int set = 0;
        for (int k = 0; k < costs.size(); k++) {
            if (pot.mayPay(costs.get(k))) {
                set |= 1 << k;
            }
        }
        return set;
    }

    private void bookPlan() {
        for (int p = 0; p < pots.size(); p++) {
            for (int c = 0; c < costs.size(); c++) {
                book(pots.get(p), costs.get(c), plan.share(p, c));
            }
        }
    }

    private static void book(Pot pot, Cost cost, int amount) {
        pot.money -= amount;
        pot.owner().direct += amount;
        cost.pay(pot.owner(), amount);
    }

    // ---- inside: overhead

    private int shareByDirectCosts(int amount) {
        long sum = directCostsWithRoom();
        if (sum <= 0) {
            return 0;
        }
        int shared = 0;
        for (int k = 0; k < funds.size(); k++) {
            Fund fund = funds.get(k);
            int room = fund.room();
            if (room > 0) {
                long part = (long) amount * fund.direct / sum;
                int got = (int) Math.min(part, (long) room);
                fund.takeOverhead(got);
                shared += got;
            }
        }
        return shared;
    }

    private long directCostsWithRoom() {
        long sum = 0;
        for (int k = 0; k < funds.size(); k++) {
            Fund fund = funds.get(k);
            if (fund.room() > 0) {
                sum += fund.direct;
            }
        }
        return sum;
    }

    private int shareOnes(int amount) {
        int shared = 0;
        for (int k = 0; k < funds.size() && shared < amount; k++) {
            Fund fund = funds.get(k);
            if (fund.room() > 0) {
                fund.takeOverhead(1);
                shared++;
            }
        }
        return shared;
    }

    // ---- inside: reasons

    private boolean isAllowedBySomeFund(Cost cost) {
        for (int k = 0; k < funds.size(); k++) {
            if (funds.get(k).allows(cost.category)) {
                return true;
            }
        }
        return false;
    }

    private boolean isSuitedBySomeFund(Cost cost) {
        for (int k = 0; k < funds.size(); k++) {
            if (funds.get(k).suits(cost)) {
                return true;
            }
        }
        return false;
    }

    private boolean isPayableFromSomePot(Cost cost) {
        lineUpPots();
        for (int k = 0; k < pots.size(); k++) {
            Pot pot = pots.get(k);
            if (pot.money > 0 && pot.mayPay(cost)) {
                return true;
            }
        }
        return false;
    }

    private boolean isHeldInCommitment(Cost cost) {
        for (int k = 0; k < commitments.size(); k++) {
            Commitment commitment = commitments.get(k);
            if (commitment.money > 0 && commitment.owner().suits(cost)) {
                return true;
            }
        }
        return false;
    }

    private static boolean has(int set, int element) {
        return (set >> element & 1) != 0;
    }

    /** Money that costs can be charged to. */
    private abstract static class Pot {
        int money;

        Pot(int money) {
            this.money = money;
        }

        abstract Fund owner();

        abstract int expiry();

        abstract boolean mayPay(Cost cost);
    }

    /** A fund; as a pot it is its free money. */
    private static final class Fund extends Pot {
        final int number;
        private final int allowed;
        private final int lastDay;
        private final int ceiling;
        int direct;
        int overhead;

        Fund(int number, int money, int allowed, int lastDay, int ceiling) {
            super(money);
            this.number = number;
            this.allowed = allowed;
            this.lastDay = lastDay;
            this.ceiling = ceiling;
        }

        Fund owner() {
            return this;
        }

        int expiry() {
            return lastDay;
        }

        boolean mayPay(Cost cost) {
            return suits(cost);
        }

        boolean allows(int category) {
            return has(allowed, category);
        }

        boolean suits(Cost cost) {
            return allows(cost.category) && cost.day <= lastDay;
        }

        int room() {
            int above = direct * ceiling / HUNDREDTHS - overhead;
            return Math.max(0, Math.min(above, money));
        }

        void takeOverhead(int amount) {
            money -= amount;
            overhead += amount;
        }
    }

    /** An amount of a fund that is kept for one category until a day. */
    private static final class Commitment extends Pot {
        private final Fund fund;
        private final int category;
        private final int until;

        Commitment(Fund fund, int category, int money, int until) {
            super(money);
            this.fund = fund;
            this.category = category;
            this.until = until;
        }

        Fund owner() {
            return fund;
        }

        int expiry() {
            return until;
        }

        boolean mayPay(Cost cost) {
            return cost.category == category && fund.suits(cost);
        }
    }

    /** A cost, with what each fund has paid for it. */
    private static final class Cost {
        final int category;
        final int day;
        int unpaid;
        private final int[] shares = new int[MAX_FUNDS];

        Cost(int category, int day, int unpaid) {
            this.category = category;
            this.day = day;
            this.unpaid = unpaid;
        }

        int shareOf(Fund fund) {
            int number = fund.number;
            return number >= 0 && number < MAX_FUNDS ? shares[number] : 0;
        }

        void pay(Fund fund, int amount) {
            int number = fund.number;
            if (number >= 0 && number < MAX_FUNDS) {
                shares[number] += amount;
                unpaid -= amount;
            }
        }
    }

    /**
     * The one way to charge that the document asks for, found in three steps: what each cost is paid,
     * then what each pot pays, then what each pot pays for each cost. A step starts from what the one
     * before it has found and changes none of its amounts.
     *
     * <p>Every step shifts money along chains of pots. In a chain each pot takes over, from the pot
     * behind it, a part of one cost; so the first pot pays more, the last one less, and those between
     * them as much as before. When no chain is left that helps, no way at all is better.
     */
    private static final class Plan {
        private static final int NONE = -1;
        /** Far above what any plan needs; the loops end when no chain is left. */
        private static final int MAX_TURNS = 1000000;

        private int pots;
        private int costs;
        private final int[] potLeft = new int[MAX_POTS];
        private final int[] costLeft = new int[MAX_COSTS];
        private final int[] planned = new int[MAX_COSTS];
        private final int[][] shares = new int[MAX_POTS][MAX_COSTS];
        /** For each pot the set of the costs that it may pay for. */
        private final int[] reach = new int[MAX_POTS];
        /** For each pot the set of the costs that it pays for in this plan. */
        private final int[] paying = new int[MAX_POTS];
        private final int[] queue = new int[MAX_POTS];
        /** For each pot that a search has come to: the pot ahead of it in the chain, and the cost between them. */
        private final int[] ahead = new int[MAX_POTS];
        private final int[] via = new int[MAX_POTS];

        void begin(int potCount, int costCount) {
            pots = Math.max(0, Math.min(potCount, MAX_POTS));
            costs = Math.max(0, Math.min(costCount, MAX_COSTS));
            for (int pot = 0; pot < pots; pot++) {
                paying[pot] = 0;
                for (int cost = 0; cost < costs; cost++) {
                    shares[pot][cost] = 0;
                }
            }
        }

        void setCost(int cost, int unpaid) {
            if (isCost(cost)) {
                costLeft[cost] = unpaid;
                planned[cost] = 0;
            }
        }

        void setPot(int pot, int money, int costSet) {
            if (isPot(pot)) {
                potLeft[pot] = money;
                reach[pot] = costSet;
            }
        }

        int leftOfCost(int cost) {
            return isCost(cost) ? costLeft[cost] : 0;
        }

        int leftOfPot(int pot) {
            return isPot(pot) ? potLeft[pot] : 0;
        }

        int share(int pot, int cost) {
            return isPot(pot) && isCost(cost) ? shares[pot][cost] : 0;
        }

        int paidInAll() {
            int sum = 0;
            for (int cost = 0; cost < costs; cost++) {
                sum += planned[cost];
            }
            return sum;
        }

        // ---- the three steps

        void payCosts() {
            for (int cost = 0; cost < costs; cost++) {
                boolean more = true;
                for (int turn = 0; turn < MAX_TURNS && more; turn++) {
                    more = payMoreOf(cost);
                }
            }
        }

        void drawOnPots() {
            for (int pot = 0; pot < pots; pot++) {
                boolean more = true;
                for (int turn = 0; turn < MAX_TURNS && more; turn++) {
                    more = drawMoreOn(pot);
                }
            }
        }

        void spreadCosts() {
            for (int cost = 0; cost < costs; cost++) {
                for (int pot = 0; pot < pots; pot++) {
                    boolean more = has(reach[pot], cost);
                    for (int turn = 0; turn < MAX_TURNS && more; turn++) {
                        more = payMoreFrom(pot, cost);
                    }
                }
            }
        }

        private boolean payMoreOf(int cost) {
            if (leftOfCost(cost) <= 0) {
                return false;
            }
            int last = findChain(potsWithMoney(), potsWith(reach, cost), 0);
            if (last == NONE) {
                return false;
            }
            int first = firstOfChain(last);
            int amount = narrowest(last, Math.min(leftOfCost(cost), leftOfPot(first)));
            shiftAlongChain(last, amount);
            addShare(last, cost, amount);
            addToPot(first, -amount);
            planCost(cost, amount);
            return amount > 0;
        }

        private boolean drawMoreOn(int pot) {
            if (leftOfPot(pot) <= 0) {
                return false;
            }
            int last = findChain(1 << pot, potsAfter(pot), 0);
            if (last == NONE) {
                return false;
            }
            int amount = narrowest(last, leftOfPot(pot));
            shiftAlongChain(last, amount);
            addToPot(pot, -amount);
            addToPot(last, amount);
            return amount > 0;
        }

        /** Keeps all amounts of earlier costs, and those that earlier pots pay for this one. */
        private boolean payMoreFrom(int pot, int cost) {
            int last = findChain(potsAfter(pot) & potsWith(paying, cost), 1 << pot, cost + 1);
            if (last == NONE) {
                return false;
            }
            int first = firstOfChain(last);
            int amount = narrowest(last, share(first, cost));
            shiftAlongChain(last, amount);
            addShare(first, cost, -amount);
            addShare(last, cost, amount);
            return amount > 0;
        }

        // ---- chains of pots

        /**
         * Looks for a chain from one of the pots of a set to one of another set, with costs from a first
         * one on between them; answers its last pot, or NONE. Shortest chains come first, as that keeps
         * the turns few.
         */
        private int findChain(int starts, int ends, int firstCost) {
            int waiting = 0;
            for (int pot = 0; pot < pots; pot++) {
                ahead[pot] = NONE;
                via[pot] = NONE;
                if (has(starts, pot) && waiting < MAX_POTS) {
                    queue[waiting] = pot;
                    waiting++;
                }
            }
            int reached = starts;
            for (int k = 0; k < waiting && k < MAX_POTS; k++) {
                int pot = queue[k];
                if (has(ends, pot)) {
                    return pot;
                }
                for (int next = 0; next < pots; next++) {
                    int cost = has(reached, next) ? NONE : costBetween(pot, next, firstCost);
                    if (cost != NONE && waiting < MAX_POTS) {
                        ahead[next] = pot;
                        via[next] = cost;
                        reached |= 1 << next;
                        queue[waiting] = next;
                        waiting++;
                    }
                }
            }
            return NONE;
        }

        /** A cost of which the one pot may take over a part that the next one pays. */
        private int costBetween(int pot, int next, int firstCost) {
            int both = isPot(pot) && isPot(next) ? reach[pot] & paying[next] : 0;
            if (both == 0) {
                return NONE;
            }
            for (int cost = firstCost; cost < costs; cost++) {
                if (has(both, cost)) {
                    return cost;
                }
            }
            return NONE;
        }

        private boolean hasAhead(int pot) {
            return isPot(pot) && isPot(ahead[pot]);
        }

        private int firstOfChain(int last) {
            int pot = last;
            for (int step = 0; step < MAX_POTS && hasAhead(pot); step++) {
                pot = ahead[pot];
            }
            return pot;
        }

        private int narrowest(int last, int limit) {
            int width = limit;
            int pot = last;
            for (int step = 0; step < MAX_POTS && hasAhead(pot); step++) {
                width = Math.min(width, share(pot, via[pot]));
                pot = ahead[pot];
            }
            return width;
        }

        private void shiftAlongChain(int last, int amount) {
            int pot = last;
            for (int step = 0; step < MAX_POTS && hasAhead(pot); step++) {
                addShare(pot, via[pot], -amount);
                addShare(ahead[pot], via[pot], amount);
                pot = ahead[pot];
            }
        }

        // ---- amounts and sets

        private boolean isPot(int pot) {
            return pot >= 0 && pot < pots && pot < MAX_POTS;
        }

        private boolean isCost(int cost) {
            return cost >= 0 && cost < costs && cost < MAX_COSTS;
        }

        private void addShare(int pot, int cost, int amount) {
            if (isPot(pot) && isCost(cost)) {
                shares[pot][cost] += amount;
                int bit = 1 << cost;
                paying[pot] = shares[pot][cost] > 0 ? paying[pot] | bit : paying[pot] & ~bit;
            }
        }

        private void addToPot(int pot, int amount) {
            if (isPot(pot)) {
                potLeft[pot] += amount;
            }
        }

        private void planCost(int cost, int amount) {
            if (isCost(cost)) {
                costLeft[cost] -= amount;
                planned[cost] += amount;
            }
        }

        private int potsWithMoney() {
            int set = 0;
            for (int pot = 0; pot < pots; pot++) {
                if (potLeft[pot] > 0) {
                    set |= 1 << pot;
                }
            }
            return set;
        }

        /** The pots in whose sets of costs a cost is. */
        private int potsWith(int[] costSets, int cost) {
            int set = 0;
            for (int pot = 0; pot < pots && pot < costSets.length; pot++) {
                if (has(costSets[pot], cost)) {
                    set |= 1 << pot;
                }
            }
            return set;
        }

        private int potsAfter(int pot) {
            return ((1 << pots) - 1) & (-1 << (pot + 1));
        }
    }
}
