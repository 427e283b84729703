import java.util.function.Supplier;

/**
 * "A call that throws an exception changes nothing; if several exceptions apply, the one that its @throws lines
 * name first is thrown": every mixture of good and wrong numbers, on ledgers that are empty, small and full.
 */
public final class RefusalsTest {
    private static final int LEAST = Integer.MIN_VALUE;
    private static final int MOST = Integer.MAX_VALUE;

    public static void main(String[] args) {
        addFund();
        deposit();
        depositOnAnEmptyLedger();
        commit(RefusalsTest::withTwoFunds, 0);
        commit(RefusalsTest::withSixCommitments, 6);
        commitOnAnEmptyLedger();
        commitRefusedByEachState();
        addCost();
        callsOnAFullLedger();
        callsOnAnEmptyLedger();
        refusedCallsBetween();
        Check.finish("RefusalsTest");
    }

    /** Promise 2: a number out of range goes before six funds. */
    private static void addFund() {
        for (int amount : new int[] {LEAST, -1, 0, 99999, 100000, MOST}) {
            for (int allowed : new int[] {-1, 255, 256}) {
                for (int lastDay : new int[] {-1, 999, 1000}) {
                    for (int ceiling : new int[] {-1, 0, 101}) {
                        boolean good = isIn(amount, 0, 99999) && allowed == 255 && lastDay == 999 && ceiling == 0;
                        int[] numbers = {amount, allowed, lastDay, ceiling};
                        refused(RefusalsTest::withSixCommitments, good ? "State" : "Argument", "addFund", numbers);
                        if (!good) {
                            refused(RestrictedFunds::new, "Argument", "addFund", numbers);
                        }
                    }
                }
            }
        }
    }

    /** Promise 3: no such fund goes before the amount. */
    private static void deposit() {
        for (int fund : new int[] {LEAST, -1, 0, 1, 2, 6, MOST}) {
            for (int amount : new int[] {LEAST, -1, 0, 1, 99999, 100000, MOST}) {
                boolean known = isIn(fund, 0, 1);
                if (!known || !isIn(amount, 1, 99999)) {
                    refused(RefusalsTest::withTwoFunds, known ? "Argument" : "Bounds", "deposit", fund, amount);
                }
            }
        }
    }

    private static void depositOnAnEmptyLedger() {
        for (int amount : new int[] {LEAST, 0, 1, 99999, 100000, MOST}) {
            refused(RestrictedFunds::new, "Bounds", "deposit", 0, amount);
        }
    }

    /** Promise 4: no such fund, then the other numbers, then what the ledger holds. */
    private static void commit(Supplier<RestrictedFunds> maker, int commitments) {
        int[] funds = {LEAST, -1, 0, 1, 6, MOST};
        int[] categories = {LEAST, -1, 0, 1, 7, 8, MOST};
        int[] amounts = {LEAST, 0, 1, 10, 11, 99999, 100000, MOST};
        int[] untils = {LEAST, 49, 50, 999, 1000, MOST};
        for (int k = 0; k < funds.length * categories.length * amounts.length * untils.length; k++) {
            int fund = funds[k % funds.length];
            int category = categories[k / funds.length % categories.length];
            int amount = amounts[k / funds.length / categories.length % amounts.length];
            int until = untils[k / funds.length / categories.length / amounts.length];
            String due = "none";
            if (!isIn(fund, 0, 1)) {
                due = "Bounds";
            } else if (!isIn(category, 0, 7) || !isIn(amount, 1, 99999) || !isIn(until, 50, 999)) {
                due = "Argument";
            } else if (category == 1 || amount > 10 || commitments == 6) {
                due = "State";
            }
            if (!due.equals("none")) {
                refused(maker, due, "commit", fund, category, amount, until);
            }
        }
    }

    private static void commitOnAnEmptyLedger() {
        for (int category : new int[] {-1, 0, 7, 8}) {
            for (int amount : new int[] {0, 1, 99999, 100000}) {
                for (int until : new int[] {-1, 0, 999, 1000}) {
                    refused(RestrictedFunds::new, "Bounds", "commit", 0, category, amount, until);
                }
            }
        }
    }

    /** Promise 4: each state alone; at its edge the call is taken. */
    private static void commitRefusedByEachState() {
        refused(RefusalsTest::withTwoFunds, "State", "commit", 0, 1, 1, 50);
        RestrictedFunds x = withTwoFunds();
        Check.due(1, x, "commit", 0, 0, 1, 50);
        refused(RefusalsTest::withTwoFunds, "State", "commit", 0, 0, 11, 50);
        RestrictedFunds y = withTwoFunds();
        Check.due(1, y, "commit", 0, 0, 10, 50);
        Check.due(0, y, "freeOf", 0);
        refused(RefusalsTest::withSixCommitments, "State", "commit", 0, 0, 1, 50);
        RestrictedFunds z = withSixCommitments();
        z.cancel(3);
        Check.due(6, z, "commit", 0, 0, 1, 50);
        // What is committed is no free money, and what was deposited is.
        Check.state(y, "commit", 0, 0, 1, 50);
        Check.due(1, y, "deposit", 0, 1);
        Check.due(2, y, "commit", 0, 0, 1, 50);
    }

    /** Promise 7: a number out of range goes before sixteen costs. */
    private static void addCost() {
        for (int category : new int[] {LEAST, -1, 0, 7, 8, MOST}) {
            for (int day : new int[] {LEAST, -1, 0, 500, 501, 999, MOST}) {
                for (int amount : new int[] {LEAST, 0, 1, 99999, 100000, MOST}) {
                    boolean good = isIn(category, 0, 7) && isIn(day, 0, 500) && isIn(amount, 1, 99999);
                    refused(RefusalsTest::withSixteenCosts, good ? "State" : "Argument",
                            "addCost", category, day, amount);
                    if (!good) {
                        refused(RefusalsTest::onTheDay500, "Argument", "addCost", category, day, amount);
                    }
                }
            }
        }
    }

    /** All calls that can be refused, one after the other: the full ledger is what it was. */
    private static void callsOnAFullLedger() {
        RestrictedFunds x = Ledgers.full();
        String before = Check.picture(x);
        Check.state(x, "addFund", 99999, 255, 999, 100);
        Check.argument(x, "addFund", 99999, 255, 999, 101);
        Check.bounds(x, "deposit", 6, 100000);
        Check.argument(x, "deposit", 5, 100000);
        Check.bounds(x, "commit", 6, 8, 0, 499);
        Check.argument(x, "commit", 5, 7, 1, 499);
        Check.state(x, "commit", 5, 7, 1, 500);
        Check.bounds(x, "cancel", 6);
        Check.argument(x, "advance", 500);
        Check.argument(x, "advance", 0);
        Check.argument(x, "addCost", 7, 501, 1);
        Check.state(x, "addCost", 7, 500, 1);
        Check.argument(x, "chargeOverhead", 0);
        Check.argument(x, "chargeOverhead", 100000);
        for (String method : new String[] {"freeOf", "committedOf", "directOf", "overheadOf", "roomOf", "wouldTake",
                "fundOf", "leftOf", "untilOf"}) {
            Check.bounds(x, method, 6);
        }
        for (String method : new String[] {"unpaidOf", "wouldPay", "reason"}) {
            Check.bounds(x, method, 16);
        }
        Check.bounds(x, "paidBy", 15, 6);
        Check.bounds(x, "paidBy", 16, 5);
        Check.isStill(before, x);
    }

    /** On a new ledger there is no fund, no commitment and no cost, and its day is 0. */
    private static void callsOnAnEmptyLedger() {
        RestrictedFunds x = new RestrictedFunds();
        String before = Check.picture(x);
        for (String method : new String[] {"cancel", "freeOf", "committedOf", "directOf", "overheadOf", "roomOf",
                "fundOf", "leftOf", "untilOf", "unpaidOf", "wouldPay", "wouldTake", "reason"}) {
            Check.boundsBeside(0, x, method, 0, 0);
        }
        Check.boundsBeside(0, x, "paidBy", 0, 0, 0);
        Check.boundsBeside(0, x, "paidBy", 1, 0, 0);
        Check.boundsBeside(0, x, "deposit", 0, 0, 1);
        Check.boundsBeside(0, x, "commit", 0, 0, 0, 1, 0);
        Check.argument(x, "addCost", 0, 1, 1);
        Check.argument(x, "advance", 1000);
        Check.argument(x, "chargeOverhead", 0);
        Check.isStill(before, x);
    }

    /** What follows on refused calls is as if they had not been: numbers, money and days. */
    private static void refusedCallsBetween() {
        RestrictedFunds x = Ledgers.small();
        RestrictedFunds y = Ledgers.small();
        Check.argument(x, "addFund", 5, 1, 20, 101);
        Check.bounds(x, "deposit", 2, 5);
        Check.state(x, "commit", 1, 0, 5, 20);
        Check.bounds(x, "cancel", 1);
        Check.argument(x, "advance", 990);
        Check.argument(x, "addCost", 0, 11, 5);
        Check.argument(x, "chargeOverhead", 0);
        for (RestrictedFunds ledger : new RestrictedFunds[] {x, y}) {
            Check.due(2, ledger, "addFund", 5, 1, 20, 100);
            Check.due(65, ledger, "deposit", 1, 5);
            Check.due(2, ledger, "commit", 1, 1, 5, 20);
            Check.due(2, ledger, "addCost", 0, 10, 5);
            Check.due(110, ledger, "charge");
            Check.due(5, ledger, "chargeOverhead", 5);
            Check.due(1, ledger, "advance", 3);
        }
        Check.same("the ledger with refused calls", Check.picture(x), Check.picture(y));
    }

    private static RestrictedFunds withTwoFunds() {
        RestrictedFunds x = new RestrictedFunds();
        x.advance(50);
        x.addFund(10, 0b11111101, 60, 10);
        x.addFund(10, 0b11111101, 40, 20);
        return x;
    }

    /** Two funds that can be asked for more, and four that can not. */
    private static RestrictedFunds withSixCommitments() {
        RestrictedFunds x = withTwoFunds();
        for (int fund = 2; fund < 6; fund++) {
            x.addFund(2, 1, 70, 30);
            x.commit(fund, 0, 2, 50);
        }
        for (int fund = 0; fund < 2; fund++) {
            x.deposit(fund, 1);
            x.commit(fund, 7, 1, 60);
        }
        return x;
    }

    private static RestrictedFunds onTheDay500() {
        RestrictedFunds x = new RestrictedFunds();
        x.advance(500);
        return x;
    }

    private static RestrictedFunds withSixteenCosts() {
        RestrictedFunds x = onTheDay500();
        for (int k = 0; k < 16; k++) {
            x.addCost(k / 2, k, 10 + k);
        }
        return x;
    }

    private static boolean isIn(int number, int least, int most) {
        return least <= number && number <= most;
    }

    private static void refused(Supplier<RestrictedFunds> maker, String due, String method, int... numbers) {
        RestrictedFunds x = maker.get();
        String before = Check.picture(x);
        switch (due) {
            case "Bounds" -> Check.bounds(x, method, numbers);
            case "Argument" -> Check.argument(x, method, numbers);
            default -> Check.state(x, method, numbers);
        }
        Check.isStill(before, x);
    }
}
