/** Promises 10 to 23: what the ledger tells of funds, commitments and costs. */
public final class LedgerTest {
    public static void main(String[] args) {
        counts();
        funds();
        room();
        commitments();
        costs();
        Check.finish("LedgerTest");
    }

    private static RestrictedFunds ledger() {
        RestrictedFunds x = new RestrictedFunds();
        x.advance(20);
        x.addFund(1000, 3, 30, 10);
        x.addFund(500, 6, 40, 25);
        x.commit(0, 0, 100, 25);
        x.commit(0, 1, 200, 35);
        x.commit(1, 2, 50, 22);
        x.addCost(0, 20, 150);
        x.addCost(2, 19, 80);
        x.addCost(1, 18, 800);
        x.addCost(3, 20, 7);
        x.charge();
        return x;
    }

    /** Promises 10, 11, 17 and 21. */
    private static void counts() {
        RestrictedFunds x = ledger();
        Check.due(20, x, "today");
        Check.due(2, x, "funds");
        Check.due(1, x, "commitments");
        Check.due(4, x, "costs");
        x.advance(5);
        x.advance(3);
        Check.due(28, x, "today");
        x.addFund(1, 1, 1, 1);
        Check.due(3, x, "funds");
        x.commit(2, 0, 1, 28);
        Check.due(2, x, "commitments");
        x.cancel(0);
        Check.due(1, x, "commitments");
        x.addCost(0, 0, 1);
        Check.due(5, x, "costs");
    }

    /** Promises 12 to 15. The free money of the fund 0 expires before its commitment to the category 1. */
    private static void funds() {
        RestrictedFunds x = ledger();
        Check.due(0, x, "freeOf", 0);
        Check.due(50, x, "committedOf", 0);
        Check.due(950, x, "directOf", 0);
        Check.due(0, x, "overheadOf", 0);
        Check.due(420, x, "freeOf", 1);
        Check.due(0, x, "committedOf", 1);
        Check.due(80, x, "directOf", 1);
        Check.due(0, x, "overheadOf", 1);
        x.commit(1, 1, 30, 50);
        x.commit(1, 2, 40, 60);
        Check.due(70, x, "committedOf", 1);
        Check.due(50, x, "committedOf", 0);
        Check.due(350, x, "freeOf", 1);
        Check.due(15, x, "chargeOverhead", 15);
        Check.due(15, x, "overheadOf", 1);
        Check.due(5, x, "chargeOverhead", 15);
        Check.due(20, x, "overheadOf", 1);
        Check.due(0, x, "overheadOf", 0);
        Check.due(330, x, "freeOf", 1);
        Check.due(80, x, "directOf", 1);
        x.advance(16);
        x.charge();
        Check.due(950, x, "directOf", 0);
        String before = Check.picture(x);
        for (String method : new String[] {"freeOf", "committedOf", "directOf", "overheadOf"}) {
            Check.bounds(x, method, -1);
            Check.bounds(x, method, 2);
            Check.bounds(x, method, 6);
            Check.bounds(x, method, Integer.MIN_VALUE);
            Check.bounds(new RestrictedFunds(), method, 0);
        }
        Check.isStill(before, x);
    }

    /** Promise 16. */
    private static void room() {
        RestrictedFunds x = ledger();
        Check.due(0, x, "roomOf", 0);
        Check.due(20, x, "roomOf", 1);
        x.deposit(0, 94);
        Check.due(94, x, "roomOf", 0);
        x.deposit(0, 2);
        Check.due(95, x, "roomOf", 0);
        Check.due(3, x, "chargeOverhead", 3);
        Check.due(92, x, "roomOf", 0);
        Check.due(20, x, "roomOf", 1);
        String before = Check.picture(x);
        Check.bounds(x, "roomOf", -1);
        Check.bounds(x, "roomOf", 2);
        Check.isStill(before, x);
        RestrictedFunds y = new RestrictedFunds();
        before = Check.picture(y);
        Check.bounds(y, "roomOf", 0);
        Check.isStill(before, y);
        y.addFund(1000, 1, 50, 33);
        y.addCost(0, 0, 199);
        y.charge();
        Check.due(65, y, "roomOf", 0);
    }

    /** Promises 18 to 20. */
    private static void commitments() {
        RestrictedFunds x = ledger();
        x.commit(1, 1, 30, 999);
        Check.due(0, x, "fundOf", 0);
        Check.due(50, x, "leftOf", 0);
        Check.due(35, x, "untilOf", 0);
        Check.due(1, x, "fundOf", 1);
        Check.due(30, x, "leftOf", 1);
        Check.due(999, x, "untilOf", 1);
        String before = Check.picture(x);
        for (String method : new String[] {"fundOf", "leftOf", "untilOf"}) {
            Check.bounds(x, method, -1);
            Check.bounds(x, method, 2);
            Check.bounds(x, method, 6);
            Check.bounds(x, method, Integer.MAX_VALUE);
            Check.bounds(new RestrictedFunds(), method, 0);
        }
        Check.isStill(before, x);
    }

    /** Promises 22 and 23: what a fund has paid from its free money and its commitments, together. */
    private static void costs() {
        RestrictedFunds x = ledger();
        Check.due(0, x, "unpaidOf", 0);
        Check.due(0, x, "unpaidOf", 1);
        Check.due(0, x, "unpaidOf", 2);
        Check.due(7, x, "unpaidOf", 3);
        Check.due(150, x, "paidBy", 0, 0);
        Check.due(0, x, "paidBy", 0, 1);
        Check.due(0, x, "paidBy", 1, 0);
        Check.due(80, x, "paidBy", 1, 1);
        Check.due(800, x, "paidBy", 2, 0);
        Check.due(0, x, "paidBy", 2, 1);
        Check.due(0, x, "paidBy", 3, 1);
        String before = Check.picture(x);
        Check.bounds(x, "unpaidOf", -1);
        Check.bounds(x, "unpaidOf", 4);
        Check.bounds(x, "unpaidOf", 16);
        Check.bounds(x, "paidBy", 4, 0);
        Check.bounds(x, "paidBy", -1, 0);
        Check.bounds(x, "paidBy", 0, 2);
        Check.bounds(x, "paidBy", 0, -1);
        Check.bounds(x, "paidBy", 0, 6);
        Check.bounds(x, "paidBy", 16, 0);
        Check.isStill(before, x);
        Check.bounds(new RestrictedFunds(), "unpaidOf", 0);
        Check.bounds(new RestrictedFunds(), "paidBy", 0, 0);
    }
}
