/** "Pots come in this order", "Charging", and promises 8 and 23 to 26, at their edges. */
public final class ChargingEdgesTest {
    public static void main(String[] args) {
        freeMoneyByTheLastDay();
        freeMoneyOfTheSameDayByTheFund();
        commitmentsByTheDay();
        commitmentsOfTheSameDayByTheNumber();
        commitmentsThatHaveMovedUp();
        commitmentsBeforeFreeMoneyOfTheSameDay();
        freeMoneyBeforeItsOwnLaterCommitment();
        twelvePotsInTheirOrder();
        nothingToChargeOrToChargeTo();
        atMostWhatAPotHas();
        atMostWhatIsUnpaid();
        whatIsPaidIsNotPaidAgain();
        theCost0IsPaidTheMost();
        theFirstPotPaysTheMost();
        theSecondPotPaysTheMostThroughTheFirst();
        theCost0ByTheFirstPot();
        theCost0KeepsWhatTheFirstPotCanSpare();
        whatAFundHasPaidIsAddedUp();
        theLeastOverAllSetsOfPots();
        forecastsOfEachCostAndFund();
        theLargestLedger();
        aFullLedgerIsChargedInTwoSteps();
        Check.finish("ChargingEdgesTest");
    }

    /** A fund of 5 up to each of these days; the cost of 5, which each may pay, is paid by the due one. */
    private static void paidByFund(int due, int... lastDays) {
        RestrictedFunds x = new RestrictedFunds();
        for (int lastDay : lastDays) {
            x.addFund(5, 1, lastDay, 0);
        }
        x.addCost(0, 0, 5);
        Check.due(5, x, "wouldTake", due);
        Check.due(5, x, "charge");
        for (int fund = 0; fund < lastDays.length; fund++) {
            Check.due(fund == due ? 5 : 0, x, "paidBy", 0, fund);
            Check.due(fund == due ? 0 : 5, x, "freeOf", fund);
        }
    }

    private static void freeMoneyByTheLastDay() {
        paidByFund(1, 10, 9);
        paidByFund(0, 10, 11);
        paidByFund(1, 999, 998);
        paidByFund(1, 1, 0);
        paidByFund(5, 999, 800, 600, 400, 200, 0);
        paidByFund(0, 0, 200, 400, 600, 800, 999);
        paidByFund(2, 50, 40, 30, 40, 50, 60);
    }

    private static void freeMoneyOfTheSameDayByTheFund() {
        paidByFund(0, 10, 10);
        paidByFund(0, 0, 0);
        paidByFund(0, 999, 999);
        paidByFund(1, 11, 10, 10);
        paidByFund(0, 7, 7, 7, 7, 7, 7);
    }

    /** A fund of 5, and no free money, for each of these commitments; the cost is paid by the due one. */
    private static void paidByCommitment(int due, int... untils) {
        RestrictedFunds x = new RestrictedFunds();
        for (int k = 0; k < untils.length; k++) {
            x.addFund(5, 1, 500, 0);
            x.commit(k, 0, 5, untils[k]);
        }
        x.addCost(0, 0, 5);
        Check.due(5, x, "wouldTake", due);
        Check.due(5, x, "charge");
        Check.due(untils.length - 1, x, "commitments");
        for (int k = 0; k < untils.length; k++) {
            Check.due(k == due ? 5 : 0, x, "directOf", k);
            Check.due(k == due ? 0 : 5, x, "committedOf", k);
        }
    }

    private static void commitmentsByTheDay() {
        paidByCommitment(1, 10, 9);
        paidByCommitment(0, 10, 11);
        paidByCommitment(1, 999, 998);
        paidByCommitment(1, 1, 0);
        paidByCommitment(5, 15, 14, 13, 12, 11, 10);
        paidByCommitment(3, 50, 40, 30, 20, 60, 999);
    }

    private static void commitmentsOfTheSameDayByTheNumber() {
        paidByCommitment(0, 10, 10);
        paidByCommitment(0, 999, 999);
        paidByCommitment(2, 20, 20, 10, 10);
        paidByCommitment(0, 7, 7, 7, 7, 7, 7);
    }

    /** What counts is the number that a commitment has now. */
    private static void commitmentsThatHaveMovedUp() {
        RestrictedFunds x = new RestrictedFunds();
        x.addFund(5, 1, 50, 0);
        x.addFund(5, 1, 50, 0);
        x.commit(0, 0, 5, 9);
        x.commit(1, 0, 5, 9);
        x.cancel(0);
        x.commit(0, 0, 5, 9);
        x.addCost(0, 0, 5);
        Check.due(5, x, "charge");
        Check.due(5, x, "paidBy", 0, 1);
        Check.due(0, x, "paidBy", 0, 0);
        Check.due(1, x, "commitments");
        Check.due(0, x, "fundOf", 0);
    }

    /** Free money of one fund up to the day 20, a commitment of another fund until a day before, on or after it. */
    private static void commitmentsBeforeFreeMoneyOfTheSameDay() {
        for (int until = 19; until <= 21; until++) {
            for (int committing = 0; committing < 2; committing++) {
                RestrictedFunds x = new RestrictedFunds();
                x.addFund(5, 1, 20, 0);
                x.addFund(5, 1, 20, 0);
                x.commit(committing, 0, 5, until);
                x.addCost(0, 0, 5);
                int due = until <= 20 ? committing : 1 - committing;
                Check.due(5, x, "wouldTake", due);
                Check.due(5, x, "charge");
                Check.due(5, x, "paidBy", 0, due);
                Check.due(until <= 20 ? 0 : 1, x, "commitments");
            }
        }
    }

    private static void freeMoneyBeforeItsOwnLaterCommitment() {
        for (int until = 19; until <= 21; until++) {
            RestrictedFunds x = new RestrictedFunds();
            x.addFund(10, 1, 20, 0);
            x.commit(0, 0, 5, until);
            x.addCost(0, 0, 4);
            Check.due(4, x, "charge");
            Check.due(until <= 20 ? 5 : 1, x, "freeOf", 0);
            Check.due(until <= 20 ? 1 : 5, x, "leftOf", 0);
            Check.due(4, x, "paidBy", 0, 0);
        }
    }

    /** As many pots as there may be, of 1 each; cost by cost the next one of them is spent. */
    private static void twelvePotsInTheirOrder() {
        RestrictedFunds x = new RestrictedFunds();
        int[] lastDays = {30, 20, 30, 10, 20, 999};
        for (int lastDay : lastDays) {
            x.addFund(2, 1, lastDay, 0);
        }
        int[][] commitments = {{0, 30}, {1, 40}, {2, 20}, {3, 20}, {4, 0}, {5, 999}};
        for (int[] commitment : commitments) {
            x.commit(commitment[0], 0, 1, commitment[1]);
        }
        int[] order = {4, 3, 2, 3, 1, 4, 0, 0, 2, 1, 5, 5};
        for (int k = 0; k < order.length; k++) {
            x.addCost(0, 0, 1);
            Check.due(1, x, "wouldTake", order[k]);
            Check.due(1, x, "charge");
            Check.due(1, x, "paidBy", k, order[k]);
        }
        Check.due(0, x, "commitments");
        x.addCost(0, 0, 1);
        Check.due(0, x, "charge");
    }

    private static void nothingToChargeOrToChargeTo() {
        RestrictedFunds x = new RestrictedFunds();
        Check.due(0, x, "payable");
        Check.due(0, x, "charge");
        x.addCost(0, 0, 5);
        Check.due(0, x, "payable");
        Check.due(0, x, "wouldPay", 0);
        Check.due(0, x, "charge");
        Check.due(5, x, "unpaidOf", 0);
        RestrictedFunds y = new RestrictedFunds();
        y.addFund(5, 1, 5, 0);
        y.commit(0, 0, 2, 3);
        Check.due(0, y, "payable");
        Check.due(0, y, "wouldTake", 0);
        Check.due(0, y, "charge");
        Check.due(3, y, "freeOf", 0);
        Check.due(2, y, "leftOf", 0);
        Check.due(0, y, "directOf", 0);
    }

    private static void atMostWhatAPotHas() {
        for (int money = 0; money <= 5; money++) {
            RestrictedFunds x = new RestrictedFunds();
            x.addFund(money, 1, 5, 0);
            x.addCost(0, 0, 5);
            Check.due(money, x, "payable");
            Check.due(money, x, "wouldPay", 0);
            Check.due(money, x, "wouldTake", 0);
            Check.due(money, x, "charge");
            Check.due(0, x, "freeOf", 0);
            Check.due(5 - money, x, "unpaidOf", 0);
            Check.due(money, x, "directOf", 0);
        }
    }

    private static void atMostWhatIsUnpaid() {
        for (int money = 5; money <= 7; money++) {
            RestrictedFunds x = new RestrictedFunds();
            x.addFund(money, 1, 5, 0);
            x.commit(0, 0, money, 5);
            x.addCost(0, 0, 5);
            Check.due(5, x, "payable");
            Check.due(5, x, "wouldTake", 0);
            Check.due(5, x, "charge");
            Check.due(money - 5, x, "committedOf", 0);
            Check.due(money == 5 ? 0 : 1, x, "commitments");
            Check.due(0, x, "unpaidOf", 0);
        }
    }

    private static void whatIsPaidIsNotPaidAgain() {
        RestrictedFunds x = new RestrictedFunds();
        x.addFund(8, 1, 5, 0);
        x.addCost(0, 0, 5);
        Check.due(5, x, "charge");
        Check.due(0, x, "payable");
        Check.due(0, x, "wouldPay", 0);
        Check.due(0, x, "wouldTake", 0);
        Check.due(0, x, "charge");
        Check.due(3, x, "freeOf", 0);
        x.addCost(0, 0, 5);
        Check.due(3, x, "charge");
        Check.due(2, x, "unpaidOf", 1);
        x.deposit(0, 1);
        Check.due(1, x, "wouldPay", 1);
        Check.due(1, x, "charge");
        x.deposit(0, 5);
        Check.due(1, x, "wouldPay", 1);
        Check.due(1, x, "charge");
        Check.due(5, x, "paidBy", 1, 0);
        Check.due(4, x, "freeOf", 0);
    }

    /** The last of the costs gets what is left, to the very last 1; none behind it gets anything. */
    private static void theCost0IsPaidTheMost() {
        for (int money = 0; money <= 9; money++) {
            RestrictedFunds x = new RestrictedFunds();
            x.addFund(money, 1, 5, 0);
            x.addCost(0, 0, 4);
            x.addCost(0, 0, 1);
            x.addCost(0, 0, 3);
            Check.due(Math.min(money, 4), x, "wouldPay", 0);
            Check.due(money > 4 ? 1 : 0, x, "wouldPay", 1);
            Check.due(Math.max(0, Math.min(money - 5, 3)), x, "wouldPay", 2);
            Check.due(Math.min(money, 8), x, "charge");
        }
    }

    /** The first pot pays all that it can; it leaves a cost to the second one where another cost needs it. */
    private static void theFirstPotPaysTheMost() {
        RestrictedFunds x = new RestrictedFunds();
        x.addFund(5, 0b011, 10, 0);
        x.addFund(5, 0b110, 20, 0);
        x.addCost(1, 0, 5);
        Check.due(5, x, "wouldTake", 0);
        Check.due(0, x, "wouldTake", 1);
        x.addCost(0, 0, 2);
        Check.due(5, x, "wouldTake", 0);
        Check.due(2, x, "wouldTake", 1);
        x.addCost(2, 0, 9);
        Check.due(5, x, "wouldPay", 0);
        Check.due(2, x, "wouldPay", 1);
        Check.due(3, x, "wouldPay", 2);
        Check.due(5, x, "wouldTake", 0);
        Check.due(5, x, "wouldTake", 1);
        Check.due(10, x, "charge");
        Check.due(3, x, "paidBy", 0, 0);
        Check.due(2, x, "paidBy", 0, 1);
        Check.due(2, x, "paidBy", 1, 0);
        Check.due(3, x, "paidBy", 2, 1);
    }

    /** The second pot takes the cost 0 from the first, as far as it can, and the first the cost 1 from the third. */
    private static void theSecondPotPaysTheMostThroughTheFirst() {
        for (int money = 0; money <= 7; money++) {
            int second = Math.min(money, 5);
            RestrictedFunds x = new RestrictedFunds();
            x.addFund(5, 0b11, 10, 0);
            x.addFund(money, 0b01, 20, 0);
            x.addFund(5, 0b10, 30, 0);
            x.addCost(0, 0, 5);
            x.addCost(1, 0, 5);
            Check.due(5, x, "wouldTake", 0);
            Check.due(second, x, "wouldTake", 1);
            Check.due(5 - second, x, "wouldTake", 2);
            Check.due(10, x, "charge");
            Check.due(5 - second, x, "paidBy", 0, 0);
            Check.due(second, x, "paidBy", 0, 1);
            Check.due(second, x, "paidBy", 1, 0);
            Check.due(5 - second, x, "paidBy", 1, 2);
            Check.due(money - second, x, "freeOf", 1);
            Check.due(second, x, "freeOf", 2);
        }
    }

    /** Two pots and two costs of the same kind: the cost 0 has all of the first pot that it can take. */
    private static void theCost0ByTheFirstPot() {
        for (int money = 1; money <= 9; money++) {
            RestrictedFunds x = new RestrictedFunds();
            x.addFund(10, 1, 20, 0);
            x.addFund(money, 1, 10, 0);
            x.addCost(0, 0, 5);
            x.addCost(0, 0, 3);
            Check.due(8, x, "charge");
            Check.due(Math.min(5, money), x, "paidBy", 0, 1);
            Check.due(5 - Math.min(5, money), x, "paidBy", 0, 0);
            Check.due(Math.max(0, Math.min(money - 5, 3)), x, "paidBy", 1, 1);
            Check.due(3 - Math.max(0, Math.min(money - 5, 3)), x, "paidBy", 1, 0);
        }
    }

    /** The cost 2 needs 1 of the first pot; what it has besides goes to the cost 0, and then to the cost 1. */
    private static void theCost0KeepsWhatTheFirstPotCanSpare() {
        for (int money = 1; money <= 4; money++) {
            RestrictedFunds x = new RestrictedFunds();
            x.addFund(money, 0b11, 10, 0);
            x.addFund(2, 0b01, 20, 0);
            x.addCost(0, 0, 1);
            x.addCost(0, 0, 1);
            x.addCost(1, 0, 1);
            Check.due(3, x, "charge");
            Check.due(money > 1 ? 1 : 0, x, "paidBy", 0, 0);
            Check.due(money > 1 ? 0 : 1, x, "paidBy", 0, 1);
            Check.due(money > 2 ? 1 : 0, x, "paidBy", 1, 0);
            Check.due(money > 2 ? 0 : 1, x, "paidBy", 1, 1);
            Check.due(1, x, "paidBy", 2, 0);
        }
    }

    /** Promise 23: "from its free money and its commitments", in one charge and in several. */
    private static void whatAFundHasPaidIsAddedUp() {
        RestrictedFunds x = new RestrictedFunds();
        x.addFund(12, 1, 20, 0);
        x.commit(0, 0, 3, 10);
        x.commit(0, 0, 4, 30);
        x.addCost(0, 0, 100);
        Check.due(12, x, "wouldTake", 0);
        Check.due(12, x, "charge");
        Check.due(12, x, "paidBy", 0, 0);
        Check.due(12, x, "directOf", 0);
        x.deposit(0, 1);
        x.charge();
        Check.due(13, x, "paidBy", 0, 0);
        x.addFund(7, 1, 20, 0);
        x.charge();
        Check.due(13, x, "paidBy", 0, 0);
        Check.due(7, x, "paidBy", 0, 1);
        Check.due(80, x, "unpaidOf", 0);
    }

    /** Promise 24: the set with the least holds no pot, all pots, or some of them. */
    private static void theLeastOverAllSetsOfPots() {
        Check.due(7, withMoneyAndCosts(10, 10, 3, 4), "payable");
        Check.due(7, withMoneyAndCosts(3, 4, 10, 10), "payable");
        Check.due(7, withMoneyAndCosts(3, 10, 10, 4), "payable");
        Check.due(7, withMoneyAndCosts(10, 4, 3, 10), "payable");
        Check.due(7, withMoneyAndCosts(3, 4, 3, 4), "payable");
        Check.due(4, withMoneyAndCosts(0, 4, 10, 10), "payable");
        Check.due(0, withMoneyAndCosts(0, 0, 10, 10), "payable");
        RestrictedFunds x = withMoneyAndCosts(3, 4, 5, 4);
        x.addFund(9, 0b100, 5, 0);
        Check.due(7, x, "payable");
        x.addCost(2, 0, 8);
        Check.due(15, x, "payable");
        x.addFund(1, 0b101, 5, 0);
        Check.due(16, x, "payable");
        x.addCost(3, 0, 99999);
        Check.due(16, x, "payable");
        Check.due(16, x, "charge");
    }

    /** Two funds, and a cost for each of them alone. */
    private static RestrictedFunds withMoneyAndCosts(int first, int second, int firstCost, int secondCost) {
        RestrictedFunds x = new RestrictedFunds();
        x.addFund(first, 0b01, 5, 0);
        x.addFund(second, 0b10, 5, 0);
        x.addCost(0, 0, firstCost);
        x.addCost(1, 0, secondCost);
        return x;
    }

    /** Promises 24 to 26 on a full ledger: what the costs would be paid and the funds would pay is charged. */
    private static void forecastsOfEachCostAndFund() {
        RestrictedFunds x = Ledgers.full();
        int[] paid = {50, 51, 52, 53, 54, 55, 56, 57, 58, 59, 60, 20, 0, 5, 0, 0};
        Check.due(630, x, "payable");
        for (int cost = 0; cost < 16; cost++) {
            Check.due(paid[cost], x, "wouldPay", cost);
            Check.due(50 + cost, x, "unpaidOf", cost);
        }
        for (int fund = 0; fund < 6; fund++) {
            Check.due(30 * (fund + 1), x, "wouldTake", fund);
            Check.due(0, x, "directOf", fund);
        }
        Check.due(630, x, "charge");
        for (int cost = 0; cost < 16; cost++) {
            Check.due(50 + cost - paid[cost], x, "unpaidOf", cost);
            Check.due(0, x, "wouldPay", cost);
        }
        for (int fund = 0; fund < 6; fund++) {
            Check.due(30 * (fund + 1), x, "directOf", fund);
            Check.due(0, x, "wouldTake", fund);
        }
        Check.due(0, x, "payable");
        Check.due(0, x, "commitments");
    }

    /** All amounts as large as they may be: 6 funds, 6 commitments and 16 costs. */
    private static void theLargestLedger() {
        RestrictedFunds x = new RestrictedFunds();
        for (int fund = 0; fund < 6; fund++) {
            x.addFund(99999, 255, 999, 100);
            x.commit(fund, 7, 99999, 999);
            x.deposit(fund, 99999);
            x.deposit(fund, 99999);
        }
        for (int k = 0; k < 16; k++) {
            x.addCost(k < 6 ? 0 : 7, 0, 99999);
        }
        Check.due(16 * 99999, x, "payable");
        Check.due(3 * 99999, x, "wouldTake", 0);
        Check.due(99999, x, "wouldTake", 5);
        Check.due(16 * 99999, x, "charge");
        Check.due(0, x, "commitments");
        for (int cost = 0; cost < 16; cost++) {
            Check.due(0, x, "unpaidOf", cost);
            Check.due(RestrictedFunds.PAID, x, "reason", cost);
        }
        Check.due(99999, x, "paidBy", 0, 0);
        Check.due(99999, x, "directOf", 5);
        Check.due(2 * 99999, x, "freeOf", 5);
        Check.due(0, x, "freeOf", 0);
        Check.state(x, "addCost", 0, 0, 1);
        Check.state(x, "addFund", 0, 0, 0, 0);
    }

    /** Paid costs still count among the sixteen, and what comes in later pays for those that are not. */
    private static void aFullLedgerIsChargedInTwoSteps() {
        RestrictedFunds x = new RestrictedFunds();
        x.addFund(8, 1, 5, 0);
        for (int k = 0; k < 16; k++) {
            x.addCost(0, 0, 1);
        }
        Check.due(8, x, "charge");
        Check.due(0, x, "unpaidOf", 7);
        Check.due(1, x, "unpaidOf", 8);
        Check.state(x, "addCost", 0, 0, 1);
        x.addFund(9, 1, 5, 0);
        Check.due(1, x, "wouldPay", 15);
        Check.due(8, x, "wouldTake", 1);
        Check.due(8, x, "charge");
        Check.due(0, x, "unpaidOf", 15);
        Check.due(1, x, "paidBy", 15, 1);
        Check.due(0, x, "paidBy", 7, 1);
        Check.state(x, "addCost", 0, 0, 1);
        Check.due(16, x, "costs");
    }
}
