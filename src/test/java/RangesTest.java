/**
 * The lists of arguments in promises 2 to 9, 12 to 16, 18 to 20, 22, 23 and 25 to 27: the last number that is
 * in its range and the first one outside of it, at both ends, and the greatest and the least int.
 */
public final class RangesTest {
    public static void main(String[] args) {
        amountOfAFund();
        allowedOfAFund();
        lastDayOfAFund();
        ceilingOfAFund();
        amountOfADeposit();
        categoryOfACommitment();
        amountOfACommitment();
        untilOfACommitment();
        daysToAdvance();
        categoryOfACost();
        dayOfACost();
        amountOfACost();
        amountOfOverhead();
        numbersOfFunds();
        numbersOfCommitments();
        numbersOfCosts();
        costAndFundOfPaidBy();
        numbersOfTheGone();
        Check.finish("RangesTest");
    }

    /** Promise 2: "amount: 0 to 99999". */
    private static void amountOfAFund() {
        RestrictedFunds x = new RestrictedFunds();
        Check.due(0, x, "addFund", 0, 1, 5, 5);
        Check.due(1, x, "addFund", 99999, 1, 5, 5);
        Check.due(0, x, "freeOf", 0);
        Check.due(99999, x, "freeOf", 1);
        String before = Check.picture(x);
        Check.argumentBeside(0, 99999, x, "addFund", 0, 10, 1, 5, 5);
        Check.isStill(before, x);
        Check.due(2, x, "addFund", 10, 1, 5, 5);
    }

    /** Promise 2: "bit k for the category k; 0 to 255". */
    private static void allowedOfAFund() {
        RestrictedFunds x = new RestrictedFunds();
        Check.due(0, x, "addFund", 8, 0, 5, 5);
        Check.due(1, x, "addFund", 8, 255, 5, 5);
        for (int category = 0; category < 8; category++) {
            Check.state(x, "commit", 0, category, 1, 5);
        }
        Check.due(1, x, "commit", 1, 0, 1, 5);
        Check.due(2, x, "commit", 1, 7, 1, 5);
        String before = Check.picture(x);
        Check.argumentBeside(0, 255, x, "addFund", 1, 10, 1, 5, 5);
        Check.isStill(before, x);
        Check.due(2, x, "addFund", 10, 1, 5, 5);
    }

    /** Promise 2: "lastDay: 0 to 999", whatever today is. */
    private static void lastDayOfAFund() {
        RestrictedFunds x = new RestrictedFunds();
        x.advance(999);
        Check.due(0, x, "addFund", 10, 1, 0, 5);
        Check.due(1, x, "addFund", 10, 2, 999, 5);
        x.addCost(0, 0, 1);
        x.addCost(0, 1, 1);
        x.addCost(1, 999, 1);
        Check.due(1, x, "wouldPay", 0);
        Check.due(0, x, "wouldPay", 1);
        Check.due(1, x, "wouldPay", 2);
        String before = Check.picture(x);
        Check.argumentBeside(0, 999, x, "addFund", 2, 10, 1, 5, 5);
        Check.isStill(before, x);
        Check.due(2, x, "addFund", 10, 1, 5, 5);
    }

    /** Promise 2: "ceiling: 0 to 100". */
    private static void ceilingOfAFund() {
        RestrictedFunds x = new RestrictedFunds();
        Check.due(0, x, "addFund", 900, 1, 5, 0);
        Check.due(1, x, "addFund", 900, 2, 5, 100);
        x.addCost(0, 0, 300);
        x.addCost(1, 0, 300);
        x.charge();
        Check.due(0, x, "roomOf", 0);
        Check.due(300, x, "roomOf", 1);
        String before = Check.picture(x);
        Check.argumentBeside(0, 100, x, "addFund", 3, 10, 1, 5, 5);
        Check.isStill(before, x);
        Check.due(2, x, "addFund", 10, 1, 5, 5);
    }

    /** Promise 3: "amount: 1 to 99999". */
    private static void amountOfADeposit() {
        RestrictedFunds x = Ledgers.small();
        Check.due(101, x, "deposit", 0, 1);
        Check.due(100100, x, "deposit", 0, 99999);
        String before = Check.picture(x);
        Check.argumentBeside(1, 99999, x, "deposit", 1, 0, 1);
        Check.isStill(before, x);
        Check.due(100101, x, "deposit", 0, 1);
    }

    /** Promise 4: "category: 0 to 7"; the fund allows both. */
    private static void categoryOfACommitment() {
        RestrictedFunds x = Ledgers.small();
        Check.due(2, x, "commit", 0, 0, 1, 20);
        Check.due(3, x, "commit", 0, 7, 1, 20);
        String before = Check.picture(x);
        Check.argumentBeside(0, 7, x, "commit", 1, 0, 0, 1, 20);
        // Bits that a shift would take for those of the categories 0 and 7.
        Check.argument(x, "commit", 0, 32, 1, 20);
        Check.argument(x, "commit", 0, 39, 1, 20);
        Check.argument(x, "commit", 0, -32, 1, 20);
        Check.argument(x, "commit", 0, -25, 1, 20);
        Check.isStill(before, x);
        Check.due(4, x, "commit", 0, 0, 1, 20);
    }

    /** Promise 4: "amount: 1 to 99999"; there is free money for more. */
    private static void amountOfACommitment() {
        RestrictedFunds x = Ledgers.small();
        x.deposit(0, 99999);
        x.deposit(0, 99999);
        Check.due(2, x, "commit", 0, 0, 1, 20);
        Check.due(3, x, "commit", 0, 0, 99999, 20);
        Check.due(1, x, "leftOf", 1);
        Check.due(99999, x, "leftOf", 2);
        Check.due(100098, x, "freeOf", 0);
        String before = Check.picture(x);
        Check.argumentBeside(1, 99999, x, "commit", 2, 0, 0, 1, 20);
        Check.isStill(before, x);
        Check.due(4, x, "commit", 0, 0, 1, 20);
    }

    /** Promise 4: "until: today to 999"; at first today is 0, and on the day 999 just that day is left. */
    private static void untilOfACommitment() {
        RestrictedFunds x = new RestrictedFunds();
        x.addFund(10, 1, 5, 0);
        untilFrom(0, x);
        x.cancel(0);
        x.advance(10);
        untilFrom(10, x);
        x.cancel(0);
        x.advance(988);
        untilFrom(998, x);
        RestrictedFunds y = new RestrictedFunds();
        y.addFund(10, 1, 5, 0);
        y.advance(999);
        untilFrom(999, y);
    }

    private static void untilFrom(int today, RestrictedFunds x) {
        Check.due(1, x, "commit", 0, 0, 1, today);
        Check.due(2, x, "commit", 0, 0, 1, 999);
        Check.due(today, x, "untilOf", 0);
        Check.due(999, x, "untilOf", 1);
        String before = Check.picture(x);
        Check.argumentBeside(today, 999, x, "commit", 3, 0, 0, 1, today);
        Check.isStill(before, x);
        Check.due(3, x, "commit", 0, 0, 1, today);
        Check.due(1, x, "cancel", 2);
        Check.due(1, x, "cancel", 0);
    }

    /** Promise 6: "days: 1 to 999", and the day is not above 999. */
    private static void daysToAdvance() {
        RestrictedFunds x = new RestrictedFunds();
        Check.argumentBeside(1, 999, x, "advance", 0, 1);
        Check.due(0, x, "today");
        Check.due(0, x, "advance", 999);
        Check.due(999, x, "today");
        Check.argumentBeside(1, 0, x, "advance", 0, 1);
        Check.argument(x, "advance", 999);
        Check.due(999, x, "today");
        RestrictedFunds y = Ledgers.small();
        Check.due(0, y, "advance", 1);
        Check.due(11, y, "today");
        String before = Check.picture(y);
        Check.argumentBeside(1, 988, y, "advance", 0, 1);
        Check.argument(y, "advance", 999);
        // The day would be the least int, and one above it.
        Check.argument(y, "advance", Integer.MAX_VALUE - 10);
        Check.argument(y, "advance", Integer.MAX_VALUE - 9);
        Check.argument(y, "advance", -11);
        Check.isStill(before, y);
        Check.due(1, y, "advance", 988);
        Check.due(999, y, "today");
    }

    /** Promise 7: "category: 0 to 7". */
    private static void categoryOfACost() {
        RestrictedFunds x = Ledgers.small();
        Check.due(2, x, "addCost", 0, 5, 10);
        Check.due(3, x, "addCost", 7, 5, 10);
        String before = Check.picture(x);
        Check.argumentBeside(0, 7, x, "addCost", 0, 0, 5, 10);
        Check.argument(x, "addCost", 32, 5, 10);
        Check.isStill(before, x);
        Check.due(4, x, "addCost", 0, 5, 10);
    }

    /** Promise 7: "day: 0 to today"; at first just 0. */
    private static void dayOfACost() {
        RestrictedFunds x = new RestrictedFunds();
        dayUpTo(0, x);
        x.advance(1);
        dayUpTo(1, x);
        x.advance(997);
        dayUpTo(998, x);
        x.advance(1);
        dayUpTo(999, x);
    }

    private static void dayUpTo(int today, RestrictedFunds x) {
        int count = x.costs();
        Check.due(count, x, "addCost", 0, 0, 10);
        Check.due(count + 1, x, "addCost", 0, today, 10);
        String before = Check.picture(x);
        Check.argumentBeside(0, today, x, "addCost", 1, 0, 0, 10);
        Check.isStill(before, x);
        Check.due(count + 2, x, "addCost", 0, 0, 10);
    }

    /** Promise 7: "amount: 1 to 99999". */
    private static void amountOfACost() {
        RestrictedFunds x = Ledgers.small();
        Check.due(2, x, "addCost", 0, 5, 1);
        Check.due(3, x, "addCost", 0, 5, 99999);
        Check.due(1, x, "unpaidOf", 2);
        Check.due(99999, x, "unpaidOf", 3);
        String before = Check.picture(x);
        Check.argumentBeside(1, 99999, x, "addCost", 2, 0, 5, 10);
        Check.isStill(before, x);
        Check.due(4, x, "addCost", 0, 5, 1);
    }

    /** Promise 9: "amount: 1 to 99999"; there is room for more. */
    private static void amountOfOverhead() {
        RestrictedFunds x = Ledgers.charged(99999, 100, 99999, 99999);
        Check.due(1, x, "chargeOverhead", 1);
        Check.due(1, x, "overheadOf", 0);
        String before = Check.picture(x);
        Check.argumentBeside(1, 99999, x, "chargeOverhead", 0, 1);
        Check.isStill(before, x);
        Check.due(99999, x, "chargeOverhead", 99999);
        Check.due(99998, x, "chargeOverhead", 99999);
        Check.due(0, x, "chargeOverhead", 1);
        Check.argumentBeside(1, 99999, x, "chargeOverhead", 0, 1);
        Check.argumentBeside(1, 99999, new RestrictedFunds(), "chargeOverhead", 0, 1);
    }

    /** "fund: a fund", from none to as many as there may be. */
    private static void numbersOfFunds() {
        RestrictedFunds x = new RestrictedFunds();
        for (int count = 0; count <= 6; count++) {
            String before = Check.picture(x);
            Check.boundsBeside(count, x, "deposit", 0, 0, 1);
            Check.boundsBeside(count, x, "commit", 0, 0, 0, 1, 0);
            for (String method : new String[] {"freeOf", "committedOf", "directOf", "overheadOf", "roomOf",
                    "wouldTake"}) {
                Check.boundsBeside(count, x, method, 0, 0);
            }
            Check.isStill(before, x);
            if (count < 6) {
                Check.due(count, x, "addFund", count, 1, 5, 0);
                x = withFunds(count + 1);
            }
        }
        for (int fund : new int[] {0, 5}) {
            Check.due(fund, x, "freeOf", fund);
            Check.due(fund + 2, x, "deposit", fund, 2);
            Check.due(fund == 0 ? 1 : 2, x, "commit", fund, 0, 1, 0);
            Check.due(fund + 1, x, "freeOf", fund);
            Check.due(1, x, "committedOf", fund);
            Check.due(0, x, "directOf", fund);
            Check.due(0, x, "overheadOf", fund);
            Check.due(0, x, "roomOf", fund);
            Check.due(0, x, "wouldTake", fund);
        }
    }

    private static RestrictedFunds withFunds(int count) {
        RestrictedFunds x = new RestrictedFunds();
        for (int fund = 0; fund < count; fund++) {
            x.addFund(fund, 1, 5, 0);
        }
        return x;
    }

    /** "commitment: a commitment", from none to as many as there may be. */
    private static void numbersOfCommitments() {
        for (int count = 0; count <= 6; count++) {
            RestrictedFunds x = withFunds(6);
            x.deposit(4, 10);
            x.deposit(5, 10);
            for (int k = 0; k < count; k++) {
                Check.due(k + 1, x, "commit", 5 - k % 2, 0, 1 + k % 2, 10 + k);
            }
            String before = Check.picture(x);
            for (String method : new String[] {"cancel", "fundOf", "leftOf", "untilOf"}) {
                Check.boundsBeside(count, x, method, 0, 0);
            }
            Check.isStill(before, x);
            for (int k = count - 1; k >= 0; k--) {
                Check.due(5 - k % 2, x, "fundOf", k);
                Check.due(1 + k % 2, x, "leftOf", k);
                Check.due(10 + k, x, "untilOf", k);
                Check.due(1 + k % 2, x, "cancel", k);
            }
        }
    }

    /** "cost: a cost", from none to as many as there may be. */
    private static void numbersOfCosts() {
        for (int count = 0; count <= 16; count++) {
            RestrictedFunds x = withFunds(2);
            for (int k = 0; k < count; k++) {
                Check.due(k, x, "addCost", 0, 0, 1 + k);
            }
            String before = Check.picture(x);
            for (String method : new String[] {"unpaidOf", "wouldPay", "reason"}) {
                Check.boundsBeside(count, x, method, 0, 0);
            }
            Check.boundsBeside(count, x, "paidBy", 0, 0, 0);
            Check.isStill(before, x);
            for (int k = 0; k < count; k++) {
                Check.due(1 + k, x, "unpaidOf", k);
                Check.due(k == 0 ? 1 : 0, x, "wouldPay", k);
                Check.due(RestrictedFunds.CHARGEABLE, x, "reason", k);
                Check.due(0, x, "paidBy", k, 1);
            }
        }
    }

    /** Promise 23: "if there is no such cost or fund". */
    private static void costAndFundOfPaidBy() {
        for (int funds = 0; funds <= 6; funds++) {
            RestrictedFunds x = withFunds(funds);
            x.addCost(0, 0, 100);
            String before = Check.picture(x);
            Check.boundsBeside(funds, x, "paidBy", 1, 0, 0);
            Check.isStill(before, x);
            x.charge();
            for (int fund = 0; fund < funds; fund++) {
                Check.due(fund, x, "paidBy", 0, fund);
            }
        }
        RestrictedFunds x = Ledgers.full();
        x.charge();
        String before = Check.picture(x);
        for (int cost : new int[] {Integer.MIN_VALUE, -1, 0, 15, 16, Integer.MAX_VALUE}) {
            for (int fund : new int[] {Integer.MIN_VALUE, -1, 0, 5, 6, Integer.MAX_VALUE}) {
                if (cost != 0 && cost != 15 || fund != 0 && fund != 5) {
                    Check.bounds(x, "paidBy", cost, fund);
                }
            }
        }
        Check.isStill(before, x);
    }

    /** A commitment that has ended is no commitment any more, in whichever way it has ended. */
    private static void numbersOfTheGone() {
        RestrictedFunds x = withFunds(6);
        x.commit(5, 0, 5, 0);
        x.cancel(0);
        noCommitment(0, x);
        x.commit(5, 0, 5, 0);
        x.commit(4, 0, 4, 1);
        x.advance(1);
        noCommitment(1, x);
        x.addCost(0, 1, 4);
        x.charge();
        noCommitment(0, x);
    }

    private static void noCommitment(int count, RestrictedFunds x) {
        Check.due(count, x, "commitments");
        for (String method : new String[] {"cancel", "fundOf", "leftOf", "untilOf"}) {
            Check.boundsBeside(count, x, method, 0, 0);
        }
    }
}
