/** Promise 27, "of several reasons the first one of these": each reason beside the next one. */
public final class ReasonEdgesTest {
    private static final int PAID = RestrictedFunds.PAID;
    private static final int NO_FUND = RestrictedFunds.NO_FUND;
    private static final int TOO_LATE = RestrictedFunds.TOO_LATE;
    private static final int CHARGEABLE = RestrictedFunds.CHARGEABLE;
    private static final int HELD = RestrictedFunds.HELD;
    private static final int SPENT = RestrictedFunds.SPENT;

    public static void main(String[] args) {
        constants();
        paidIfNothingIsUnpaid();
        noFundIfNoneAllowsTheCategory();
        tooLateIfNoneSuits();
        chargeableIfAPotHasMoney();
        chargeableByACommitmentAlone();
        chargeableThoughEarlierCostsTakeAll();
        heldIfACommitmentHasMoney();
        heldByAFundThatSuits();
        spentOtherwise();
        reasonsAsThingsAreNow();
        theWholeRow();
        reasonsOnAFullLedger();
        Check.finish("ReasonEdgesTest");
    }

    private static void constants() {
        int[] constants = {PAID, NO_FUND, TOO_LATE, CHARGEABLE, HELD, SPENT};
        for (int k = 0; k < 6; k++) {
            Check.same("constant " + k, String.valueOf(constants[k]), String.valueOf(k));
        }
    }

    /** With 1 unpaid it is not; with nothing unpaid it is, whatever else could be told. */
    private static void paidIfNothingIsUnpaid() {
        RestrictedFunds x = new RestrictedFunds();
        x.addFund(4, 1, 5, 0);
        x.addCost(0, 0, 5);
        x.charge();
        Check.due(1, x, "unpaidOf", 0);
        Check.due(SPENT, x, "reason", 0);
        x.deposit(0, 9);
        Check.due(CHARGEABLE, x, "reason", 0);
        x.charge();
        Check.due(PAID, x, "reason", 0);
        x.commit(0, 0, 8, 5);
        Check.due(PAID, x, "reason", 0);
        x.cancel(0);
        x.advance(999);
        Check.due(PAID, x, "reason", 0);
    }

    private static void noFundIfNoneAllowsTheCategory() {
        RestrictedFunds x = new RestrictedFunds();
        x.addCost(0, 0, 5);
        x.addCost(7, 0, 5);
        Check.due(NO_FUND, x, "reason", 0);
        Check.due(NO_FUND, x, "reason", 1);
        x.addFund(99, 0b01111110, 999, 0);
        x.commit(0, 1, 5, 999);
        Check.due(NO_FUND, x, "reason", 0);
        Check.due(NO_FUND, x, "reason", 1);
        x.addFund(0, 0b10000000, 0, 0);
        Check.due(NO_FUND, x, "reason", 0);
        Check.due(SPENT, x, "reason", 1);
        x.addFund(0, 0b00000001, 0, 0);
        Check.due(SPENT, x, "reason", 0);
    }

    /** A fund whose last day is one before the cost's, and one whose last day is just that. */
    private static void tooLateIfNoneSuits() {
        RestrictedFunds x = new RestrictedFunds();
        x.advance(999);
        x.addCost(0, 999, 5);
        x.addCost(0, 1, 5);
        x.addFund(99, 1, 0, 0);
        Check.due(TOO_LATE, x, "reason", 0);
        Check.due(TOO_LATE, x, "reason", 1);
        x.commit(0, 0, 50, 999);
        Check.due(TOO_LATE, x, "reason", 0);
        Check.due(TOO_LATE, x, "reason", 1);
        x.addFund(99, 1, 998, 0);
        Check.due(TOO_LATE, x, "reason", 0);
        Check.due(CHARGEABLE, x, "reason", 1);
        x.addFund(99, 0b11111110, 999, 0);
        Check.due(TOO_LATE, x, "reason", 0);
        x.addFund(0, 1, 999, 0);
        Check.due(SPENT, x, "reason", 0);
    }

    private static void chargeableIfAPotHasMoney() {
        RestrictedFunds x = new RestrictedFunds();
        x.addFund(0, 1, 5, 0);
        x.addCost(0, 0, 99999);
        Check.due(SPENT, x, "reason", 0);
        x.deposit(0, 1);
        Check.due(CHARGEABLE, x, "reason", 0);
        Check.due(1, x, "charge");
        Check.due(SPENT, x, "reason", 0);
        x.addFund(0, 1, 0, 0);
        Check.due(SPENT, x, "reason", 0);
        x.addFund(1, 1, 0, 0);
        Check.due(CHARGEABLE, x, "reason", 0);
    }

    private static void chargeableByACommitmentAlone() {
        RestrictedFunds x = new RestrictedFunds();
        x.addFund(1, 3, 0, 0);
        x.addCost(0, 0, 5);
        x.commit(0, 0, 1, 0);
        Check.due(CHARGEABLE, x, "reason", 0);
        Check.due(1, x, "wouldPay", 0);
        x.cancel(0);
        x.commit(0, 1, 1, 0);
        Check.due(HELD, x, "reason", 0);
        Check.due(0, x, "wouldPay", 0);
        // One that holds the money, and one that may pay.
        x.addFund(1, 3, 0, 0);
        x.commit(1, 0, 1, 0);
        Check.due(CHARGEABLE, x, "reason", 0);
    }

    /** The pot has money, though charging would leave nothing for this cost. */
    private static void chargeableThoughEarlierCostsTakeAll() {
        RestrictedFunds x = new RestrictedFunds();
        x.addFund(5, 1, 5, 0);
        x.addCost(0, 0, 5);
        x.addCost(0, 0, 5);
        Check.due(CHARGEABLE, x, "reason", 0);
        Check.due(CHARGEABLE, x, "reason", 1);
        Check.due(0, x, "wouldPay", 1);
        x.charge();
        Check.due(PAID, x, "reason", 0);
        Check.due(SPENT, x, "reason", 1);
    }

    private static void heldIfACommitmentHasMoney() {
        RestrictedFunds x = new RestrictedFunds();
        x.addFund(1, 0b10000001, 5, 0);
        x.addCost(0, 0, 5);
        x.commit(0, 7, 1, 3);
        Check.due(HELD, x, "reason", 0);
        x.addCost(7, 0, 1);
        Check.due(HELD, x, "reason", 0);
        x.charge();
        Check.due(SPENT, x, "reason", 0);
        x.deposit(0, 2);
        x.commit(0, 7, 2, 3);
        Check.due(HELD, x, "reason", 0);
        Check.due(0, x, "advance", 3);
        Check.due(HELD, x, "reason", 0);
        Check.due(1, x, "advance", 1);
        Check.due(CHARGEABLE, x, "reason", 0);
    }

    /** Commitments of funds that do not allow the category, or end a day too early, do not count. */
    private static void heldByAFundThatSuits() {
        RestrictedFunds x = new RestrictedFunds();
        x.advance(20);
        x.addCost(0, 20, 5);
        x.addFund(0, 1, 20, 0);
        x.addFund(9, 2, 999, 0);
        x.commit(1, 1, 9, 999);
        Check.due(SPENT, x, "reason", 0);
        x.addFund(9, 3, 19, 0);
        x.commit(2, 1, 4, 999);
        x.commit(2, 0, 5, 999);
        Check.due(SPENT, x, "reason", 0);
        x.addFund(9, 3, 20, 0);
        x.commit(3, 1, 9, 999);
        Check.due(HELD, x, "reason", 0);
        x.cancel(3);
        Check.due(CHARGEABLE, x, "reason", 0);
    }

    private static void spentOtherwise() {
        RestrictedFunds x = new RestrictedFunds();
        x.addFund(7, 1, 5, 100);
        x.addCost(0, 0, 4);
        x.charge();
        x.addCost(0, 0, 4);
        Check.due(CHARGEABLE, x, "reason", 1);
        Check.due(3, x, "chargeOverhead", 9);
        Check.due(SPENT, x, "reason", 1);
        Check.due(PAID, x, "reason", 0);
    }

    /** The same cost, while funds, money and days change. */
    private static void reasonsAsThingsAreNow() {
        RestrictedFunds x = new RestrictedFunds();
        x.advance(1);
        x.addCost(3, 1, 10);
        Check.due(NO_FUND, x, "reason", 0);
        x.addFund(9, 0b1000, 0, 0);
        Check.due(TOO_LATE, x, "reason", 0);
        x.addFund(0, 0b1001, 1, 0);
        Check.due(SPENT, x, "reason", 0);
        x.deposit(1, 4);
        Check.due(CHARGEABLE, x, "reason", 0);
        x.commit(1, 0, 4, 1);
        Check.due(HELD, x, "reason", 0);
        x.advance(998);
        Check.due(CHARGEABLE, x, "reason", 0);
        x.charge();
        Check.due(SPENT, x, "reason", 0);
        x.deposit(1, 6);
        x.charge();
        Check.due(PAID, x, "reason", 0);
    }

    /** All six reasons in one ledger. */
    private static void theWholeRow() {
        RestrictedFunds x = new RestrictedFunds();
        x.advance(9);
        x.addFund(5, 0b000001, 9, 0);
        x.addCost(0, 9, 5);
        x.charge();
        x.addCost(7, 9, 5);
        x.addFund(5, 0b000010, 8, 0);
        x.addCost(1, 9, 5);
        x.addFund(5, 0b000100, 9, 0);
        x.addCost(2, 9, 5);
        x.addFund(5, 0b011000, 9, 0);
        x.addCost(3, 9, 5);
        x.commit(3, 4, 5, 9);
        x.addCost(0, 9, 5);
        for (int cost = 0; cost < 6; cost++) {
            Check.due(cost, x, "reason", cost);
        }
    }

    private static void reasonsOnAFullLedger() {
        RestrictedFunds x = Ledgers.full();
        for (int cost = 0; cost < 16; cost++) {
            Check.due(CHARGEABLE, x, "reason", cost);
        }
        x.charge();
        for (int cost = 0; cost < 16; cost++) {
            Check.due(cost < 11 ? PAID : SPENT, x, "reason", cost);
        }
        x.deposit(5, 1);
        x.commit(5, 7, 1, 500);
        for (int cost = 11; cost < 16; cost++) {
            Check.due(cost == 15 ? CHARGEABLE : HELD, x, "reason", cost);
        }
    }
}
