/** Promises 1 to 6: a new object, addFund, deposit, commit, cancel, advance. */
public final class FundsAndCommitmentsTest {
    public static void main(String[] args) {
        aNewObject();
        addFund();
        addFundRefuses();
        deposit();
        commit();
        commitRefuses();
        cancel();
        advance();
        advanceRefuses();
        Check.finish("FundsAndCommitmentsTest");
    }

    /** Promise 1. */
    private static void aNewObject() {
        RestrictedFunds x = new RestrictedFunds();
        Check.due(0, x, "funds");
        Check.due(0, x, "costs");
        Check.due(0, x, "commitments");
        Check.due(0, x, "today");
        Check.due(0, x, "payable");
        Check.due(0, x, "charge");
        Check.due(0, x, "chargeOverhead", 10);
        RestrictedFunds other = new RestrictedFunds();
        other.addFund(1, 1, 1, 1);
        Check.due(0, x, "funds");
    }

    /** Promise 2: its answer, its money, and the ends of each range. */
    private static void addFund() {
        RestrictedFunds x = new RestrictedFunds();
        Check.due(0, x, "addFund", 0, 0, 0, 0);
        Check.due(1, x, "addFund", 99999, 255, 999, 100);
        Check.due(2, x, "addFund", 7, 4, 5, 50);
        Check.due(3, x, "funds");
        Check.due(0, x, "freeOf", 0);
        Check.due(99999, x, "freeOf", 1);
        Check.due(7, x, "freeOf", 2);
        Check.due(0, x, "committedOf", 1);
        Check.due(0, x, "directOf", 1);
        Check.due(0, x, "overheadOf", 1);
        Check.due(0, x, "roomOf", 1);
    }

    /** Promise 2: wrong numbers go before a full ledger. */
    private static void addFundRefuses() {
        RestrictedFunds x = new RestrictedFunds();
        wrongNumbersOfAFund(x);
        for (int k = 0; k < 6; k++) {
            Check.due(k, x, "addFund", 1, 1, 1, 1);
        }
        wrongNumbersOfAFund(x);
        String before = Check.picture(x);
        Check.state(x, "addFund", 1, 1, 1, 1);
        Check.isStill(before, x);
        Check.due(6, x, "funds");
    }

    private static void wrongNumbersOfAFund(RestrictedFunds x) {
        String before = Check.picture(x);
        Check.argument(x, "addFund", -1, 1, 1, 1);
        Check.argument(x, "addFund", 100000, 1, 1, 1);
        Check.argument(x, "addFund", 1, -1, 1, 1);
        Check.argument(x, "addFund", 1, 256, 1, 1);
        Check.argument(x, "addFund", 1, 1, -1, 1);
        Check.argument(x, "addFund", 1, 1, 1000, 1);
        Check.argument(x, "addFund", 1, 1, 1, -1);
        Check.argument(x, "addFund", 1, 1, 1, 101);
        Check.argument(x, "addFund", Integer.MIN_VALUE, Integer.MAX_VALUE, 1, 1);
        Check.isStill(before, x);
    }

    /** Promise 3. */
    private static void deposit() {
        RestrictedFunds x = new RestrictedFunds();
        String before = Check.picture(x);
        Check.bounds(x, "deposit", 0, 1);
        Check.isStill(before, x);
        x.addFund(10, 1, 50, 0);
        x.addFund(20, 1, 50, 0);
        Check.due(11, x, "deposit", 0, 1);
        Check.due(100010, x, "deposit", 0, 99999);
        Check.due(100010, x, "freeOf", 0);
        Check.due(20, x, "freeOf", 1);
        x.commit(1, 0, 5, 9);
        Check.due(18, x, "deposit", 1, 3);
        before = Check.picture(x);
        Check.bounds(x, "deposit", -1, 1);
        Check.bounds(x, "deposit", 2, 1);
        Check.bounds(x, "deposit", 2, 0);
        Check.bounds(x, "deposit", Integer.MAX_VALUE, 1);
        Check.argument(x, "deposit", 1, 0);
        Check.argument(x, "deposit", 1, -5);
        Check.argument(x, "deposit", 1, 100000);
        Check.isStill(before, x);
    }

    /** Promise 4: its answer, what it takes, and the ends of each range. */
    private static void commit() {
        RestrictedFunds x = new RestrictedFunds();
        x.advance(10);
        x.addFund(100, 129, 5, 0);
        x.addFund(99999, 255, 999, 0);
        Check.due(1, x, "commit", 0, 7, 1, 10);
        Check.due(2, x, "commit", 0, 0, 99, 999);
        Check.due(3, x, "commit", 1, 3, 99999, 12);
        Check.due(3, x, "commitments");
        Check.due(0, x, "freeOf", 0);
        Check.due(100, x, "committedOf", 0);
        Check.due(0, x, "freeOf", 1);
        Check.due(99999, x, "committedOf", 1);
        Check.due(0, x, "fundOf", 1);
        Check.due(99, x, "leftOf", 1);
        Check.due(999, x, "untilOf", 1);
        Check.due(1, x, "fundOf", 2);
        Check.due(99999, x, "leftOf", 2);
        Check.due(12, x, "untilOf", 2);
    }

    /** Promise 4: the order of its exceptions. */
    private static void commitRefuses() {
        RestrictedFunds x = new RestrictedFunds();
        String before = Check.picture(x);
        Check.bounds(x, "commit", 0, 0, 1, 0);
        Check.isStill(before, x);
        x.advance(10);
        x.addFund(100, 3, 50, 0);
        before = Check.picture(x);
        Check.bounds(x, "commit", 1, 8, 0, 9);
        Check.bounds(x, "commit", -1, 0, 1, 10);
        Check.argument(x, "commit", 0, -1, 1, 10);
        Check.argument(x, "commit", 0, 8, 1, 10);
        Check.argument(x, "commit", 0, 0, 0, 10);
        Check.argument(x, "commit", 0, 0, 100000, 10);
        Check.argument(x, "commit", 0, 2, 1, 9);
        Check.argument(x, "commit", 0, 0, 101, 1000);
        Check.state(x, "commit", 0, 2, 1, 10);
        Check.state(x, "commit", 0, 0, 101, 10);
        Check.isStill(before, x);
        for (int k = 1; k <= 6; k++) {
            Check.due(k, x, "commit", 0, 1, 10, 10);
        }
        before = Check.picture(x);
        Check.state(x, "commit", 0, 1, 10, 10);
        Check.bounds(x, "commit", 1, 1, 10, 10);
        Check.argument(x, "commit", 0, 1, 0, 10);
        Check.isStill(before, x);
        Check.due(10, x, "cancel", 0);
        Check.due(6, x, "commit", 0, 1, 10, 10);
    }

    /** Promise 5: those behind a commitment that ends move up. */
    private static void cancel() {
        RestrictedFunds x = new RestrictedFunds();
        String before = Check.picture(x);
        Check.bounds(x, "cancel", 0);
        Check.isStill(before, x);
        x.addFund(50, 3, 50, 0);
        x.addFund(50, 3, 50, 0);
        x.commit(0, 0, 10, 5);
        x.commit(1, 0, 20, 6);
        x.commit(0, 1, 30, 7);
        before = Check.picture(x);
        Check.bounds(x, "cancel", 3);
        Check.bounds(x, "cancel", -1);
        Check.isStill(before, x);
        Check.due(20, x, "cancel", 1);
        Check.due(2, x, "commitments");
        Check.due(50, x, "freeOf", 1);
        Check.due(10, x, "freeOf", 0);
        Check.due(10, x, "leftOf", 0);
        Check.due(30, x, "leftOf", 1);
        Check.due(0, x, "fundOf", 1);
        Check.due(7, x, "untilOf", 1);
        Check.due(10, x, "cancel", 0);
        Check.due(30, x, "cancel", 0);
        Check.due(50, x, "freeOf", 0);
        Check.due(0, x, "commitments");
        partlyUsed();
    }

    private static void partlyUsed() {
        RestrictedFunds x = new RestrictedFunds();
        x.addFund(50, 1, 50, 0);
        x.commit(0, 0, 30, 5);
        x.addCost(0, 0, 12);
        Check.due(12, x, "charge");
        Check.due(18, x, "cancel", 0);
        Check.due(38, x, "freeOf", 0);
    }

    /** Promise 6: a commitment stands on its last day, and lapses on the next one. */
    private static void advance() {
        RestrictedFunds x = new RestrictedFunds();
        x.addFund(60, 3, 2, 0);
        x.commit(0, 0, 10, 4);
        x.commit(0, 1, 20, 5);
        x.commit(0, 0, 5, 4);
        x.commit(0, 0, 3, 9);
        Check.due(0, x, "advance", 4);
        Check.due(4, x, "today");
        Check.due(4, x, "commitments");
        Check.due(2, x, "advance", 1);
        Check.due(2, x, "commitments");
        Check.due(37, x, "freeOf", 0);
        Check.due(20, x, "leftOf", 0);
        Check.due(3, x, "leftOf", 1);
        Check.due(9, x, "untilOf", 1);
        Check.due(2, x, "advance", 100);
        Check.due(60, x, "freeOf", 0);
        Check.due(0, x, "committedOf", 0);
        Check.due(105, x, "today");
    }

    private static void daysAfterSomeHavePassed() {
        RestrictedFunds x = new RestrictedFunds();
        Check.due(0, x, "advance", 1);
        Check.due(1, x, "today");
        x.advance(49);
        String before = Check.picture(x);
        Check.argument(x, "advance", 0);
        Check.argument(x, "advance", -1);
        Check.argument(x, "advance", -49);
        Check.argument(x, "advance", 950);
        Check.argument(x, "advance", Integer.MAX_VALUE);
        Check.argument(x, "advance", Integer.MIN_VALUE);
        Check.isStill(before, x);
        Check.due(0, x, "advance", 949);
    }

    /** Promise 6. */
    private static void advanceRefuses() {
        RestrictedFunds x = new RestrictedFunds();
        String before = Check.picture(x);
        Check.argument(x, "advance", 0);
        Check.argument(x, "advance", -1);
        Check.argument(x, "advance", 1000);
        Check.argument(x, "advance", Integer.MAX_VALUE);
        Check.isStill(before, x);
        Check.due(0, x, "advance", 998);
        before = Check.picture(x);
        Check.argument(x, "advance", 2);
        Check.argument(x, "advance", 999);
        Check.argument(x, "advance", Integer.MAX_VALUE);
        Check.isStill(before, x);
        Check.due(0, x, "advance", 1);
        Check.due(999, x, "today");
        before = Check.picture(x);
        Check.argument(x, "advance", 1);
        Check.isStill(before, x);
        RestrictedFunds y = new RestrictedFunds();
        Check.due(0, y, "advance", 999);
        daysAfterSomeHavePassed();
    }
}
