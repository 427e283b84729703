/** Promises 7 to 9: addCost, charge, chargeOverhead. */
public final class CostsTest {
    public static void main(String[] args) {
        addCost();
        addCostRefuses();
        earlierCostsGoFirst();
        earlierCostsYieldWhereTheyCan();
        theFirstPotPaysTheMost();
        potsOfTheSameDay();
        commitmentsThatOutlastTheirFund();
        theFirstCostByTheFirstPot();
        potsThatDrawThroughOthers();
        costsThatChangePotsBitByBit();
        emptyCommitmentsEnd();
        daysThatHavePassed();
        chargeOverheadInRounds();
        chargeOverheadWithRoomOfOne();
        chargeOverheadByOnes();
        chargeOverheadUpToTheRoom();
        chargeOverheadRefuses();
        Check.finish("CostsTest");
    }

    /** Promise 7. */
    private static void addCost() {
        RestrictedFunds x = new RestrictedFunds();
        Check.due(0, x, "addCost", 0, 0, 1);
        x.advance(30);
        Check.due(1, x, "addCost", 7, 30, 99999);
        Check.due(2, x, "addCost", 3, 0, 5);
        Check.due(3, x, "costs");
        Check.due(1, x, "unpaidOf", 0);
        Check.due(99999, x, "unpaidOf", 1);
        Check.due(5, x, "unpaidOf", 2);
    }

    /** Promise 7: wrong numbers go before a full ledger. */
    private static void addCostRefuses() {
        RestrictedFunds x = new RestrictedFunds();
        String before = Check.picture(x);
        Check.argument(x, "addCost", 0, 1, 5);
        Check.isStill(before, x);
        x.advance(4);
        for (int k = 0; k < 16; k++) {
            Check.due(k, x, "addCost", 0, 4, 5);
        }
        before = Check.picture(x);
        Check.state(x, "addCost", 0, 4, 5);
        Check.argument(x, "addCost", -1, 0, 5);
        Check.argument(x, "addCost", 8, 0, 5);
        Check.argument(x, "addCost", 0, -1, 5);
        Check.argument(x, "addCost", 0, 5, 5);
        Check.argument(x, "addCost", 0, 0, 0);
        Check.argument(x, "addCost", 0, 0, 100000);
        Check.isStill(before, x);
        Check.due(16, x, "costs");
    }

    /** Promise 8: the cost 0 is paid the most, even if the costs behind it get less. */
    private static void earlierCostsGoFirst() {
        RestrictedFunds x = new RestrictedFunds();
        x.addFund(10, 1, 50, 0);
        x.addCost(0, 0, 7);
        x.addCost(0, 0, 7);
        x.addCost(0, 0, 7);
        Check.due(10, x, "charge");
        Check.due(0, x, "unpaidOf", 0);
        Check.due(4, x, "unpaidOf", 1);
        Check.due(7, x, "unpaidOf", 2);
        Check.due(0, x, "charge");
        x.deposit(0, 6);
        Check.due(6, x, "charge");
        Check.due(0, x, "unpaidOf", 1);
        Check.due(5, x, "unpaidOf", 2);
        Check.due(7, x, "paidBy", 1, 0);
        Check.due(16, x, "directOf", 0);
        Check.due(0, x, "freeOf", 0);
    }

    /** Promise 8: the cost 0 leaves the earliest money to one that no other money may pay, through two others. */
    private static void earlierCostsYieldWhereTheyCan() {
        RestrictedFunds x = new RestrictedFunds();
        x.addFund(10, 1 | 8, 10, 0);
        x.addFund(10, 1 | 2, 20, 0);
        x.addFund(10, 2 | 4, 30, 0);
        x.addCost(0, 0, 10);
        x.addCost(1, 0, 10);
        x.addCost(3, 0, 10);
        Check.due(30, x, "payable");
        Check.due(30, x, "charge");
        Check.due(10, x, "paidBy", 0, 1);
        Check.due(10, x, "paidBy", 1, 2);
        Check.due(10, x, "paidBy", 2, 0);
    }

    /** Promise 8: of the ways that pay as much, the one with the money that expires first. */
    private static void theFirstPotPaysTheMost() {
        RestrictedFunds x = new RestrictedFunds();
        x.addFund(10, 3, 30, 0);
        x.addFund(10, 3, 10, 0);
        x.addFund(10, 3, 20, 0);
        x.addCost(0, 0, 4);
        x.addCost(1, 0, 9);
        Check.due(10, x, "wouldTake", 1);
        Check.due(3, x, "wouldTake", 2);
        Check.due(0, x, "wouldTake", 0);
        Check.due(13, x, "charge");
        Check.due(4, x, "paidBy", 0, 1);
        Check.due(6, x, "paidBy", 1, 1);
        Check.due(3, x, "paidBy", 1, 2);
        Check.due(0, x, "freeOf", 1);
        Check.due(7, x, "freeOf", 2);
        Check.due(10, x, "freeOf", 0);
    }

    /** Promise 8: of pots with the same day commitments first, in their order, then the funds in theirs. */
    private static void potsOfTheSameDay() {
        RestrictedFunds x = new RestrictedFunds();
        x.addFund(10, 1, 20, 0);
        x.addFund(10, 1, 20, 0);
        x.commit(1, 0, 4, 20);
        x.commit(0, 0, 4, 20);
        x.addCost(0, 0, 3);
        Check.due(3, x, "charge");
        Check.due(3, x, "directOf", 1);
        Check.due(1, x, "leftOf", 0);
        x.addCost(0, 0, 3);
        Check.due(3, x, "charge");
        Check.due(1, x, "commitments");
        Check.due(2, x, "leftOf", 0);
        Check.due(0, x, "fundOf", 0);
        x.addCost(0, 0, 3);
        Check.due(3, x, "charge");
        Check.due(0, x, "commitments");
        Check.due(5, x, "freeOf", 0);
        Check.due(6, x, "freeOf", 1);
    }

    /** Promise 8: a commitment expires on its own day, and pays for costs up to its fund's last day alone. */
    private static void commitmentsThatOutlastTheirFund() {
        RestrictedFunds x = new RestrictedFunds();
        x.advance(15);
        x.addFund(10, 1, 10, 0);
        x.addFund(10, 1, 12, 0);
        x.commit(0, 0, 10, 40);
        x.addCost(0, 11, 4);
        x.addCost(0, 10, 4);
        Check.due(8, x, "charge");
        Check.due(8, x, "directOf", 1);
        Check.due(10, x, "leftOf", 0);
        x.addCost(0, 11, 4);
        x.addCost(0, 10, 4);
        Check.due(6, x, "charge");
        Check.due(2, x, "unpaidOf", 2);
        Check.due(6, x, "leftOf", 0);
        Check.due(0, x, "freeOf", 1);
    }

    /** Promise 8: with the same totals, the cost 0 is paid the most by the first pot. */
    private static void theFirstCostByTheFirstPot() {
        RestrictedFunds x = new RestrictedFunds();
        x.addFund(10, 7, 10, 0);
        x.addFund(10, 3, 20, 0);
        x.addFund(10, 7, 30, 0);
        x.addCost(0, 0, 10);
        x.addCost(1, 0, 10);
        x.addCost(2, 0, 10);
        Check.due(30, x, "charge");
        Check.due(10, x, "paidBy", 0, 0);
        Check.due(10, x, "paidBy", 1, 1);
        Check.due(10, x, "paidBy", 2, 2);
    }

    /** Promise 8: the third pot reaches the second cost alone, yet pays in the place of the last two pots. */
    private static void potsThatDrawThroughOthers() {
        RestrictedFunds x = new RestrictedFunds();
        x.addFund(2, 4 | 8, 5, 0);
        x.addFund(2, 2 | 4, 10, 0);
        x.addFund(2, 2, 20, 0);
        x.addFund(1, 4, 30, 0);
        x.addFund(1, 4, 31, 0);
        x.addCost(2, 0, 2);
        x.addCost(1, 0, 2);
        x.addCost(3, 0, 2);
        Check.due(2, x, "wouldTake", 2);
        Check.due(0, x, "wouldTake", 3);
        Check.due(6, x, "charge");
        Check.due(2, x, "paidBy", 0, 1);
        Check.due(2, x, "paidBy", 1, 2);
        Check.due(2, x, "paidBy", 2, 0);
        Check.due(1, x, "freeOf", 3);
        Check.due(1, x, "freeOf", 4);
    }

    /** Promise 8: the cost 0 is paid by the first pot, and the cost 1 by it and the last one. */
    private static void costsThatChangePotsBitByBit() {
        RestrictedFunds x = new RestrictedFunds();
        x.addFund(2, 7, 3, 0);
        x.addFund(3, 7, 2, 0);
        x.addFund(2, 1, 4, 0);
        x.addCost(0, 0, 2);
        x.addCost(0, 0, 3);
        x.addCost(1, 0, 4);
        Check.due(7, x, "charge");
        Check.due(2, x, "paidBy", 0, 1);
        Check.due(1, x, "paidBy", 1, 1);
        Check.due(2, x, "paidBy", 1, 2);
        Check.due(2, x, "paidBy", 2, 0);
    }

    /** Promise 8: commitments of which nothing is left end, those behind them move up. */
    private static void emptyCommitmentsEnd() {
        RestrictedFunds x = new RestrictedFunds();
        x.addFund(30, 7, 50, 0);
        x.commit(0, 0, 5, 9);
        x.commit(0, 1, 6, 9);
        x.commit(0, 2, 7, 9);
        x.addCost(2, 0, 7);
        x.addCost(0, 0, 5);
        x.addCost(1, 0, 5);
        Check.due(17, x, "charge");
        Check.due(1, x, "commitments");
        Check.due(1, x, "leftOf", 0);
        Check.due(12, x, "freeOf", 0);
        Check.due(17, x, "directOf", 0);
    }

    /** Promise 8: money pays for costs of its days, whatever today is. */
    private static void daysThatHavePassed() {
        RestrictedFunds x = new RestrictedFunds();
        x.advance(900);
        x.addFund(10, 1, 0, 0);
        x.addCost(0, 1, 4);
        x.addCost(0, 0, 4);
        Check.due(4, x, "charge");
        Check.due(4, x, "unpaidOf", 0);
        Check.due(0, x, "unpaidOf", 1);
    }

    /** Promise 9: shares by the direct costs, rounded down, and further rounds for what is left. */
    private static void chargeOverheadInRounds() {
        RestrictedFunds x = withDirectCosts(100, 10, 100, 200, 300);
        // 100 of 10, 20, 30 room: 16, 33, 50 are more than there is room.
        Check.due(60, x, "chargeOverhead", 100);
        Check.due(10, x, "overheadOf", 0);
        Check.due(20, x, "overheadOf", 1);
        Check.due(30, x, "overheadOf", 2);
        RestrictedFunds y = withDirectCosts(100, 50, 100, 200, 300);
        // 6, 13, 20 in the first round; of the 1 left nobody gets a share, so the first fund gets it.
        Check.due(40, y, "chargeOverhead", 40);
        Check.due(7, y, "overheadOf", 0);
        Check.due(13, y, "overheadOf", 1);
        Check.due(20, y, "overheadOf", 2);
        Check.due(93, y, "freeOf", 0);
        Check.due(43, y, "roomOf", 0);
        RestrictedFunds z = new RestrictedFunds();
        z.addFund(1000, 1, 50, 1);
        z.addFund(1000, 2, 50, 100);
        z.addCost(0, 0, 900);
        z.addCost(1, 0, 100);
        z.charge();
        // 45 and 5 of 50, but the first has room for 9; then the second alone shares the 36 left.
        Check.due(50, z, "chargeOverhead", 50);
        Check.due(9, z, "overheadOf", 0);
        Check.due(41, z, "overheadOf", 1);
    }

    /** Promise 9: room of 1 counts as any other. */
    private static void chargeOverheadWithRoomOfOne() {
        RestrictedFunds x = new RestrictedFunds();
        x.addFund(500, 1, 50, 1);
        x.addFund(500, 2, 50, 100);
        x.addCost(0, 0, 100);
        x.addCost(1, 0, 100);
        x.charge();
        Check.due(1, x, "roomOf", 0);
        Check.due(10, x, "chargeOverhead", 10);
        Check.due(1, x, "overheadOf", 0);
        Check.due(9, x, "overheadOf", 1);
        RestrictedFunds y = new RestrictedFunds();
        y.addFund(500, 1, 50, 1);
        y.addFund(500, 2, 50, 100);
        y.addCost(0, 0, 100);
        y.addCost(1, 0, 100);
        y.charge();
        Check.due(1, y, "chargeOverhead", 1);
        Check.due(1, y, "overheadOf", 0);
        Check.due(1, y, "chargeOverhead", 1);
        Check.due(1, y, "overheadOf", 1);
    }

    /** Promise 9: 1 for each, in the order of their numbers, as long as any is left. */
    private static void chargeOverheadByOnes() {
        RestrictedFunds x = withDirectCosts(50, 100, 10, 10, 10);
        Check.due(2, x, "chargeOverhead", 2);
        Check.due(1, x, "overheadOf", 0);
        Check.due(1, x, "overheadOf", 1);
        Check.due(0, x, "overheadOf", 2);
        Check.due(4, x, "chargeOverhead", 4);
        Check.due(3, x, "overheadOf", 0);
        Check.due(2, x, "overheadOf", 1);
        Check.due(1, x, "overheadOf", 2);
    }

    /** Promise 9: no more than the room, which free money bounds; commitments are left alone. */
    private static void chargeOverheadUpToTheRoom() {
        RestrictedFunds x = withDirectCosts(5, 100, 99990, 40, 60);
        x.commit(1, 1, 3, 9);
        Check.due(5, x, "roomOf", 0);
        Check.due(2, x, "roomOf", 1);
        Check.due(12, x, "chargeOverhead", 99999);
        Check.due(0, x, "freeOf", 1);
        Check.due(3, x, "leftOf", 0);
        Check.due(0, x, "chargeOverhead", 1);
        Check.due(3, x, "cancel", 0);
        Check.due(3, x, "chargeOverhead", 4);
        Check.due(5, x, "overheadOf", 1);
        largeNumbers();
    }

    /** Promise 9: amounts times direct costs that are more than an int holds. */
    private static void largeNumbers() {
        RestrictedFunds x = new RestrictedFunds();
        for (int fund = 0; fund < 2; fund++) {
            x.addFund(0, 1 << fund, 50, 100);
            for (int k = 0; k < 8; k++) {
                x.deposit(fund, 99999);
                x.addCost(fund, 0, 99999);
            }
            x.deposit(fund, 99999);
        }
        Check.due(1599984, x, "charge");
        Check.due(99999, x, "chargeOverhead", 99999);
        Check.due(50000, x, "overheadOf", 0);
        Check.due(49999, x, "overheadOf", 1);
    }

    /** Promise 9. */
    private static void chargeOverheadRefuses() {
        RestrictedFunds x = withDirectCosts(100, 10, 100, 200, 300);
        String before = Check.picture(x);
        Check.argument(x, "chargeOverhead", 0);
        Check.argument(x, "chargeOverhead", -1);
        Check.argument(x, "chargeOverhead", 100000);
        Check.isStill(before, x);
        Check.due(1, x, "chargeOverhead", 1);
    }

    /** Funds with as much free money each, and these direct costs. */
    private static RestrictedFunds withDirectCosts(int free, int ceiling, int... direct) {
        RestrictedFunds x = new RestrictedFunds();
        for (int fund = 0; fund < direct.length; fund++) {
            x.addFund(direct[fund], 1 << fund, 50, ceiling);
            x.deposit(fund, free);
            x.addCost(fund, 0, direct[fund]);
        }
        x.charge();
        return x;
    }
}
