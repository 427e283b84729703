/** Runs of calls, drawn from a fixed row of numbers, on the class and on SlowLedger, whose answers are due. */
public final class RandomRunsTest {
    /** With the picture at the end, of at most 203 calls, a run stays within the 512 calls of an object. */
    private static final int CALLS = 300;
    private static final int RUNS = 1500;

    private long drawn;
    private int largest;
    private int latest;
    private int kinds;

    private RandomRunsTest(int run) {
        drawn = run * 7919L + 17;
        largest = new int[] {3, 12, 60, 5000, 99999}[below(5)];
        latest = new int[] {2, 8, 40, 999}[below(4)];
        kinds = new int[] {1, 2, 3, 8}[below(4)];
    }

    public static void main(String[] args) {
        for (int run = 0; run < RUNS; run++) {
            new RandomRunsTest(run).compare(run);
        }
        Check.finish("RandomRunsTest");
    }

    private void compare(int run) {
        RestrictedFunds real = new RestrictedFunds();
        SlowLedger slow = new SlowLedger();
        for (int call = 0; call < CALLS; call++) {
            step("run " + run + " call " + call + ": ", real, slow);
        }
        Check.same("run " + run + ": the ledger", Check.picture(real), Check.picture(slow));
    }

    private void step(String where, RestrictedFunds real, SlowLedger slow) {
        int funds = slow.funds();
        switch (below(30)) {
            case 0, 1, 2 -> both(where, real, slow, "addFund", edged(0, largest), edged(0, (1 << kinds) - 1),
                    edged(0, latest), new int[] {0, 1, 7, 33, 50, 99, 100, 101, -1}[below(9)]);
            case 3, 4 -> both(where, real, slow, "deposit", near(funds), edged(1, largest));
            case 5, 6, 7, 8 -> both(where, real, slow, "commit", near(funds), edged(0, kinds - 1),
                    edged(1, Math.max(1, largest / 2)), slow.today() + below(latest + 2) - 1);
            case 9 -> both(where, real, slow, "cancel", near(slow.commitments()));
            case 10 -> both(where, real, slow, "advance", below(8) == 0 ? below(1100) - 50 : edged(1, latest / 8 + 1));
            case 11, 12, 13 -> both(where, real, slow, "addCost", edged(0, kinds - 1),
                    slow.today() - below(latest + 2) + 1, edged(1, largest));
            case 14 -> both(where, real, slow, "charge");
            case 15 -> both(where, real, slow, "chargeOverhead", edged(1, largest));
            case 16 -> both(where, real, slow, "payable");
            case 17 -> both(where, real, slow, "wouldPay", near(slow.costs()));
            case 18 -> both(where, real, slow, "wouldTake", near(funds));
            case 19 -> both(where, real, slow, "reason", near(slow.costs()));
            case 20 -> both(where, real, slow, "freeOf", near(funds));
            case 21 -> both(where, real, slow, "committedOf", near(funds));
            case 22 -> both(where, real, slow, "directOf", near(funds));
            case 23 -> both(where, real, slow, "overheadOf", near(funds));
            case 24 -> both(where, real, slow, "roomOf", near(funds));
            case 25 -> both(where, real, slow, "fundOf", near(slow.commitments()));
            case 26 -> both(where, real, slow, "leftOf", near(slow.commitments()));
            case 27 -> both(where, real, slow, "untilOf", near(slow.commitments()));
            case 28 -> both(where, real, slow, "unpaidOf", near(slow.costs()));
            default -> both(where, real, slow, "paidBy", near(slow.costs()), near(funds));
        }
    }

    private static void both(String where, RestrictedFunds real, SlowLedger slow, String method, int... numbers) {
        Check.same(where + Check.told(method, numbers),
                Check.ask(real, method, numbers), Check.ask(slow, method, numbers));
    }

    private int below(int bound) {
        drawn = drawn * 6364136223846793005L + 1442695040888963407L;
        return (int) ((drawn >>> 33) % bound);
    }

    /** Mostly within the bounds, now and then one beside them. */
    private int edged(int least, int most) {
        return below(40) == 0 ? least - 1 + below(2) * (most - least + 2) : least + below(most - least + 1);
    }

    /** Mostly a number that there is, now and then one beside them. */
    private int near(int count) {
        return below(15) == 0 || count == 0 ? below(2) * (count + 1) - 1 : below(count);
    }
}
