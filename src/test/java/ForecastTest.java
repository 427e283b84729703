/** Promises 24 to 27: payable, wouldPay, wouldTake, reason. */
public final class ForecastTest {
    public static void main(String[] args) {
        forecasts();
        forecastsChangeNothing();
        forecastsRefuse();
        reasonsOfFunds();
        reasonsOfMoney();
        reasonsOfSuitingFunds();
        reasonRefuses();
        Check.finish("ForecastTest");
    }

    /** Two funds share the category 1; a commitment of the first waits for the category 0. */
    private static RestrictedFunds ledger() {
        RestrictedFunds x = new RestrictedFunds();
        x.advance(9);
        x.addFund(100, 3, 20, 0);
        x.addFund(50, 2, 15, 0);
        x.addFund(40, 2, 8, 0);
        x.commit(0, 0, 30, 12);
        x.addCost(1, 9, 80);
        x.addCost(0, 9, 60);
        x.addCost(1, 5, 90);
        return x;
    }

    /** Promises 24 to 26. */
    private static void forecasts() {
        RestrictedFunds x = ledger();
        Check.due(190, x, "payable");
        Check.due(80, x, "wouldPay", 0);
        Check.due(60, x, "wouldPay", 1);
        Check.due(50, x, "wouldPay", 2);
        Check.due(100, x, "wouldTake", 0);
        Check.due(50, x, "wouldTake", 1);
        Check.due(40, x, "wouldTake", 2);
        Check.due(190, x, "charge");
        Check.due(0, x, "payable");
        Check.due(0, x, "wouldPay", 2);
        Check.due(0, x, "wouldTake", 0);
        x.deposit(1, 500);
        Check.due(40, x, "payable");
        Check.due(0, x, "wouldPay", 0);
        Check.due(40, x, "wouldPay", 2);
        Check.due(40, x, "wouldTake", 1);
        Check.due(40, x, "charge");
        x.addCost(7, 0, 5);
        Check.due(0, x, "payable");
        Check.due(0, x, "wouldPay", 3);
        // A set of pots holds the least: the 10 of the fund 4 and what is unpaid of the cost 3.
        x.addFund(1000, 128, 50, 0);
        x.addFund(10, 64, 50, 0);
        x.addCost(6, 0, 99999);
        Check.due(15, x, "payable");
    }

    /** Promises 24 to 27: asking twice, and charging after all that, answers the same. */
    private static void forecastsChangeNothing() {
        RestrictedFunds x = ledger();
        String before = Check.picture(x);
        Check.same("the second look", Check.picture(x), before);
        Check.due(190, x, "charge");
        RestrictedFunds y = ledger();
        y.charge();
        Check.same("the ledger that was asked", Check.picture(x), Check.picture(y));
    }

    /** Promises 25 and 26. */
    private static void forecastsRefuse() {
        RestrictedFunds x = ledger();
        String before = Check.picture(x);
        for (int number : new int[] {-1, 3, 6, 16, Integer.MIN_VALUE, Integer.MAX_VALUE}) {
            Check.bounds(x, "wouldPay", number);
            Check.bounds(x, "wouldTake", number);
        }
        Check.isStill(before, x);
        Check.bounds(new RestrictedFunds(), "wouldPay", 0);
        Check.bounds(new RestrictedFunds(), "wouldTake", 0);
    }

    /** Promise 27: PAID, NO_FUND, TOO_LATE. */
    private static void reasonsOfFunds() {
        RestrictedFunds x = new RestrictedFunds();
        x.advance(9);
        x.addCost(0, 9, 5);
        Check.due(RestrictedFunds.NO_FUND, x, "reason", 0);
        x.addFund(0, 254, 999, 0);
        Check.due(RestrictedFunds.NO_FUND, x, "reason", 0);
        x.addFund(0, 1, 8, 0);
        Check.due(RestrictedFunds.TOO_LATE, x, "reason", 0);
        x.deposit(1, 5);
        Check.due(RestrictedFunds.TOO_LATE, x, "reason", 0);
        x.addFund(0, 1, 9, 0);
        Check.due(RestrictedFunds.SPENT, x, "reason", 0);
        x.deposit(2, 5);
        Check.due(RestrictedFunds.CHARGEABLE, x, "reason", 0);
        x.charge();
        Check.due(RestrictedFunds.PAID, x, "reason", 0);
    }

    /** Promise 27: CHARGEABLE, HELD, SPENT. */
    private static void reasonsOfMoney() {
        RestrictedFunds x = new RestrictedFunds();
        x.addFund(10, 3, 50, 0);
        x.addCost(0, 0, 15);
        Check.due(RestrictedFunds.CHARGEABLE, x, "reason", 0);
        x.commit(0, 1, 10, 5);
        Check.due(RestrictedFunds.HELD, x, "reason", 0);
        x.cancel(0);
        x.commit(0, 0, 10, 5);
        Check.due(RestrictedFunds.CHARGEABLE, x, "reason", 0);
        x.charge();
        Check.due(5, x, "unpaidOf", 0);
        Check.due(RestrictedFunds.SPENT, x, "reason", 0);
        x.deposit(0, 1);
        Check.due(RestrictedFunds.CHARGEABLE, x, "reason", 0);
        x.commit(0, 1, 1, 5);
        Check.due(RestrictedFunds.HELD, x, "reason", 0);
        x.advance(6);
        Check.due(RestrictedFunds.CHARGEABLE, x, "reason", 0);
        x.commit(0, 0, 1, 6);
        Check.due(RestrictedFunds.CHARGEABLE, x, "reason", 0);
    }

    /** Promise 27: neither money nor a commitment of a fund that does not suit the cost counts. */
    private static void reasonsOfSuitingFunds() {
        RestrictedFunds x = new RestrictedFunds();
        x.advance(9);
        x.addFund(0, 1, 9, 0);
        x.addFund(10, 3, 8, 0);
        x.addFund(10, 2, 50, 0);
        x.addCost(0, 9, 5);
        Check.due(RestrictedFunds.SPENT, x, "reason", 0);
        x.commit(1, 0, 5, 20);
        x.commit(2, 1, 5, 20);
        Check.due(RestrictedFunds.SPENT, x, "reason", 0);
        x.addCost(0, 8, 5);
        Check.due(RestrictedFunds.CHARGEABLE, x, "reason", 1);
        x.commit(1, 1, 5, 20);
        Check.due(RestrictedFunds.CHARGEABLE, x, "reason", 1);
        x.cancel(0);
        x.commit(1, 1, 5, 20);
        Check.due(RestrictedFunds.HELD, x, "reason", 1);
        Check.due(RestrictedFunds.SPENT, x, "reason", 0);
    }

    /** Promise 27. */
    private static void reasonRefuses() {
        RestrictedFunds x = ledger();
        String before = Check.picture(x);
        for (int number : new int[] {-1, 3, 16, Integer.MIN_VALUE, Integer.MAX_VALUE}) {
            Check.bounds(x, "reason", number);
        }
        Check.isStill(before, x);
        Check.bounds(new RestrictedFunds(), "reason", 0);
    }
}
