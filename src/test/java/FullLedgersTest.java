/**
 * Promises 8 and 24 to 27 on ledgers with many pots and costs that go through one another, filled from a
 * fixed row of numbers; the answers of SlowLedger are due.
 */
public final class FullLedgersTest {
    private static final int LEDGERS = 3000;

    private final RestrictedFunds real = new RestrictedFunds();
    private final SlowLedger slow = new SlowLedger();
    private final String where;
    private final Draws draws;

    private FullLedgersTest(int number) {
        where = "ledger " + number + ": ";
        draws = new Draws(number * 15485863L + 11);
    }

    public static void main(String[] args) {
        for (int number = 0; number < LEDGERS; number++) {
            new FullLedgersTest(number).compare();
        }
        Check.finish("FullLedgersTest");
    }

    private void compare() {
        fill();
        Check.same(where + "the ledger before", Check.picture(real), Check.picture(slow));
        both("charge");
        Check.same(where + "the ledger after", Check.picture(real), Check.picture(slow));
    }

    private void fill() {
        int funds = 3 + draws.below(4);
        int kinds = 2 + draws.below(5);
        int days = 1 + draws.below(6);
        int large = new int[] {2, 4, 9, 99999}[draws.below(4)];
        both("advance", days);
        for (int k = 0; k < funds; k++) {
            both("addFund", 1 + draws.below(large), 1 + draws.below((1 << kinds) - 1), draws.below(days + 4), 0);
            both("deposit", k, 1 + draws.below(large));
        }
        int tries = draws.below(12);
        for (int k = 0; k < tries; k++) {
            both("commit", draws.below(funds), draws.below(kinds), 1 + draws.below((large + 1) / 2),
                    days + draws.below(4));
        }
        int costs = 3 + draws.below(14);
        for (int k = 0; k < costs; k++) {
            both("addCost", draws.below(kinds), draws.below(days + 1), 1 + draws.below(large));
        }
    }

    private void both(String method, int... numbers) {
        Check.same(where + Check.told(method, numbers),
                Check.ask(real, method, numbers), Check.ask(slow, method, numbers));
    }
}
