/** Ledgers that several tests begin with. */
final class Ledgers {
    private Ledgers() {
    }

    /** Day 10; two funds, of which the first has a commitment; two costs. */
    static RestrictedFunds small() {
        RestrictedFunds x = new RestrictedFunds();
        x.advance(10);
        x.addFund(130, 0b10000001, 20, 50);
        x.addFund(60, 0b00000010, 9, 0);
        x.commit(0, 7, 30, 12);
        x.addCost(0, 10, 40);
        x.addCost(1, 9, 70);
        return x;
    }

    /**
     * Day 500; as many funds, commitments and costs as there may be. The funds have 630 for costs of 920, in
     * which the 60 of the commitment 5 are 5 more than the first cost of its category.
     */
    static RestrictedFunds full() {
        RestrictedFunds x = new RestrictedFunds();
        x.advance(500);
        for (int fund = 0; fund < 6; fund++) {
            x.addFund(30 * (fund + 1), 255, 500 + 10 * fund, 10 * fund);
        }
        for (int k = 0; k < 6; k++) {
            x.commit(k, k, 10 * (k + 1), 500 + k);
        }
        for (int k = 0; k < 16; k++) {
            x.addCost(k % 8, 500 - k, 50 + k);
        }
        return x;
    }

    /** Funds that allow one category each, the first the category 0, with this free money, and their direct costs. */
    static RestrictedFunds charged(int free, int ceiling, int... direct) {
        RestrictedFunds x = new RestrictedFunds();
        for (int fund = 0; fund < direct.length; fund++) {
            addCharged(x, free, ceiling, direct[fund]);
        }
        return x;
    }

    /** One more such fund; direct costs above 0. */
    static void addCharged(RestrictedFunds x, int free, int ceiling, int direct) {
        int fund = x.addFund(direct, 1 << x.funds(), 999, ceiling);
        x.addCost(fund, 0, direct);
        x.charge();
        if (free > 0) {
            x.deposit(fund, free);
        }
    }
}
