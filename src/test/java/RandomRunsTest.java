/** Runs of calls, drawn from a fixed row of numbers, on the class and on SlowLedger, whose answers are due. */
public final class RandomRunsTest {
    /** With the picture at the end, of at most 203 calls, a run stays within the 512 calls of an object. */
    private static final int CALLS = 300;
    private static final int RUNS = 1500;

    private final Draws draws;
    private int largest;
    private int latest;
    private int kinds;
    /** Until this call nothing is charged, so that costs and funds heap up. */
    private int patience;

    private RandomRunsTest(int run) {
        draws = new Draws(run * 7919L + 17);
        largest = new int[] {3, 12, 60, 5000, 99999}[draws.below(5)];
        latest = new int[] {2, 8, 40, 999}[draws.below(4)];
        kinds = new int[] {1, 2, 3, 8}[draws.below(4)];
        patience = draws.below(3) * 60;
    }

    public static void main(String[] args) {
        for (int run = 0; run < RUNS; run++) {
            new RandomRunsTest(run).compare(run);
        }
        Check.finish("RandomRunsTest");
    }

    private void compare(int run) {
        RestrictedFunds real = new RestrictedFunds();
        SlowLedger slow = new SlowLedger();
        for (int call = 0; call < CALLS; call++) {
            step("run " + run + " call " + call + ": ", call < patience, real, slow);
        }
        Check.same("run " + run + ": the ledger", Check.picture(real), Check.picture(slow));
    }

    private void step(String where, boolean patient, RestrictedFunds real, SlowLedger slow) {
        int funds = slow.funds();
        switch (draws.below(30)) {
            case 0, 1, 2 -> both(where, real, slow, "addFund", edged(0, largest), edged(0, (1 << kinds) - 1),
                    edged(0, latest), new int[] {0, 1, 7, 33, 50, 99, 100, 101, -1}[draws.below(9)]);
            case 3, 4 -> both(where, real, slow, "deposit", near(funds), edged(1, largest));
            case 5, 6, 7, 8 -> both(where, real, slow, "commit", near(funds), edged(0, kinds - 1),
                    edged(1, Math.max(1, largest / 2)), slow.today() + draws.below(latest + 2) - 1);
            case 9 -> both(where, real, slow, "cancel", near(slow.commitments()));
            case 10 -> both(where, real, slow, "advance",
                    draws.below(8) == 0 ? draws.below(1100) - 50 : edged(1, latest / 8 + 1));
            case 11, 12, 13 -> both(where, real, slow, "addCost", edged(0, kinds - 1),
                    slow.today() - draws.below(latest + 2) + 1, edged(1, largest));
            case 14 -> both(where, real, slow, patient ? "payable" : "charge");
            case 15 -> both(where, real, slow, "chargeOverhead", edged(1, largest));
            case 16 -> both(where, real, slow, "payable");
            case 17 -> both(where, real, slow, "wouldPay", near(slow.costs()));
            case 18 -> both(where, real, slow, "wouldTake", near(funds));
            case 19 -> both(where, real, slow, "reason", near(slow.costs()));
            case 20 -> both(where, real, slow, "freeOf", near(funds));
            case 21 -> both(where, real, slow, "committedOf", near(funds));
            case 22 -> both(where, real, slow, "directOf", near(funds));
            case 23 -> both(where, real, slow, "overheadOf", near(funds));
            case 24 -> both(where, real, slow, "roomOf", near(funds));
            case 25 -> both(where, real, slow, "fundOf", near(slow.commitments()));
            case 26 -> both(where, real, slow, "leftOf", near(slow.commitments()));
            case 27 -> both(where, real, slow, "untilOf", near(slow.commitments()));
            case 28 -> both(where, real, slow, "unpaidOf", near(slow.costs()));
            default -> both(where, real, slow, "paidBy", near(slow.costs()), near(funds));
        }
    }

    private static void both(String where, RestrictedFunds real, SlowLedger slow, String method, int... numbers) {
        Check.same(where + Check.told(method, numbers),
                Check.ask(real, method, numbers), Check.ask(slow, method, numbers));
    }

    /** Mostly within the bounds, now and then one beside them. */
    private int edged(int least, int most) {
        if (draws.below(40) == 0) {
            return draws.below(2) == 0 ? least - 1 : most + 1;
        }
        return least + draws.below(most - least + 1);
    }

    /** Mostly a number that there is, now and then one beside them. */
    private int near(int count) {
        return draws.below(15) == 0 || count == 0 ? draws.below(2) * (count + 1) - 1 : draws.below(count);
    }
}
