/** "Overhead", and promises 9, 15 and 16, at their edges. */
public final class OverheadEdgesTest {
    public static void main(String[] args) {
        roomIsRoundedDown();
        roomOfTheEndsOfTheCeiling();
        roomIsNoMoreThanFreeMoney();
        roomIsWhatIsAboveTheOverhead();
        roomComesBack();
        directCostsOfCommitmentsGiveRoom();
        noRoomAtAll();
        asMuchAsThereIsRoom();
        sharesAreRoundedDown();
        aShareIsNoMoreThanTheRoom();
        fundsWithoutRoomDoNotCount();
        whatIsLeftGoesToAnotherRound();
        aFundThatIsFullDropsOut();
        onesOnlyIfNobodyGetsAnything();
        onesInTheOrderOfTheNumbers();
        onesForThoseThatHaveRoom();
        onesAsLongAsAnyIsLeft();
        whatAFundGetsIsTakenFromItsFreeMoney();
        sixFundsWithTheMostDirectCosts();
        Check.finish("OverheadEdgesTest");
    }

    private static void overhead(RestrictedFunds x, int... due) {
        for (int fund = 0; fund < due.length; fund++) {
            Check.due(due[fund], x, "overheadOf", fund);
        }
    }

    /** Direct costs times the ceiling, divided by 100, just below, at and above a whole number. */
    private static void roomIsRoundedDown() {
        int[][] rows = {{1, 99, 0}, {1, 100, 1}, {1, 101, 1}, {1, 199, 1}, {1, 200, 2}, {99, 1, 0}, {99, 2, 1},
            {50, 1, 0}, {50, 2, 1}, {50, 3, 1}, {33, 3, 0}, {33, 4, 1}, {7, 99999, 6999}, {99, 99999, 98999}};
        for (int[] row : rows) {
            RestrictedFunds x = Ledgers.charged(99999, row[0], row[1]);
            Check.due(row[2], x, "roomOf", 0);
            Check.due(row[2], x, "chargeOverhead", 99999);
            Check.due(0, x, "roomOf", 0);
        }
    }

    private static void roomOfTheEndsOfTheCeiling() {
        RestrictedFunds none = Ledgers.charged(99999, 0, 99999);
        Check.due(0, none, "roomOf", 0);
        Check.due(0, none, "chargeOverhead", 99999);
        RestrictedFunds all = Ledgers.charged(99999, 100, 777);
        Check.due(777, all, "roomOf", 0);
        Check.due(777, all, "chargeOverhead", 99999);
        RestrictedFunds unused = new RestrictedFunds();
        unused.addFund(99999, 255, 999, 100);
        Check.due(0, unused, "roomOf", 0);
        Check.due(0, unused, "chargeOverhead", 99999);
    }

    private static void roomIsNoMoreThanFreeMoney() {
        for (int free = 0; free <= 6; free++) {
            RestrictedFunds x = Ledgers.charged(free, 10, 50);
            Check.due(Math.min(free, 5), x, "roomOf", 0);
            Check.due(Math.min(free, 5), x, "chargeOverhead", 50);
            Check.due(free - Math.min(free, 5), x, "freeOf", 0);
        }
        RestrictedFunds y = Ledgers.charged(5, 10, 50);
        y.commit(0, 0, 5, 9);
        Check.due(0, y, "roomOf", 0);
        Check.due(0, y, "chargeOverhead", 1);
        Check.due(1, y, "advance", 10);
        Check.due(5, y, "roomOf", 0);
    }

    private static void roomIsWhatIsAboveTheOverhead() {
        RestrictedFunds x = Ledgers.charged(50, 10, 50);
        Check.due(4, x, "chargeOverhead", 4);
        Check.due(1, x, "roomOf", 0);
        Check.due(1, x, "chargeOverhead", 2);
        Check.due(0, x, "roomOf", 0);
        Check.due(0, x, "chargeOverhead", 1);
        overhead(x, 5);
        Check.due(45, x, "freeOf", 0);
    }

    /** New direct costs, not new money, give room to a fund that is at its ceiling. */
    private static void roomComesBack() {
        RestrictedFunds x = Ledgers.charged(50, 10, 50);
        x.chargeOverhead(5);
        x.deposit(0, 30);
        Check.due(0, x, "roomOf", 0);
        x.addCost(0, 0, 9);
        Check.due(9, x, "charge");
        Check.due(0, x, "roomOf", 0);
        x.addCost(0, 0, 1);
        Check.due(1, x, "charge");
        Check.due(60, x, "directOf", 0);
        Check.due(1, x, "roomOf", 0);
        Check.due(1, x, "chargeOverhead", 5);
        overhead(x, 6);
    }

    private static void directCostsOfCommitmentsGiveRoom() {
        RestrictedFunds x = new RestrictedFunds();
        x.addFund(100, 1, 50, 20);
        x.commit(0, 0, 40, 9);
        x.addCost(0, 0, 40);
        Check.due(0, x, "roomOf", 0);
        Check.due(40, x, "charge");
        Check.due(60, x, "freeOf", 0);
        Check.due(40, x, "directOf", 0);
        Check.due(8, x, "roomOf", 0);
        x.addCost(0, 0, 5);
        x.charge();
        Check.due(9, x, "roomOf", 0);
    }

    private static void noRoomAtAll() {
        Check.due(0, new RestrictedFunds(), "chargeOverhead", 1);
        Check.due(0, new RestrictedFunds(), "chargeOverhead", 99999);
        RestrictedFunds x = Ledgers.charged(0, 100, 10, 20, 30, 40, 50, 60);
        String before = Check.picture(x);
        Check.due(0, x, "chargeOverhead", 1);
        Check.due(0, x, "chargeOverhead", 99999);
        Check.isStill(before, x);
    }

    /** One less than the room of all, just that, and one more. */
    private static void asMuchAsThereIsRoom() {
        for (int amount = 59; amount <= 61; amount++) {
            RestrictedFunds x = Ledgers.charged(100, 10, 100, 200, 300);
            Check.due(Math.min(amount, 60), x, "chargeOverhead", amount);
            Check.due(amount == 59 ? 1 : 0, x, "chargeOverhead", 1);
            overhead(x, 10, 20, 30);
        }
        RestrictedFunds one = Ledgers.charged(100, 1, 100);
        Check.due(1, one, "chargeOverhead", 2);
        RestrictedFunds just = Ledgers.charged(100, 1, 100);
        Check.due(1, just, "chargeOverhead", 1);
        Check.due(0, just, "chargeOverhead", 1);
    }

    /** "n times its direct costs, divided by s": a third and two thirds of 2, 3, 4, 5 and 6. */
    private static void sharesAreRoundedDown() {
        // 0 and 1, then by ones; 1 and 2; 1 and 2, then 1; 1 and 3, then 1; 2 and 4.
        int[][] rows = {{2, 1, 1}, {3, 1, 2}, {4, 2, 2}, {5, 2, 3}, {6, 2, 4}};
        for (int[] row : rows) {
            RestrictedFunds x = Ledgers.charged(50, 100, 100, 200);
            Check.due(row[0], x, "chargeOverhead", row[0]);
            overhead(x, row[1], row[2]);
        }
    }

    /** The share of the first is 10; its room is one less, the same, or one more. */
    private static void aShareIsNoMoreThanTheRoom() {
        for (int free = 9; free <= 11; free++) {
            RestrictedFunds x = new RestrictedFunds();
            Ledgers.addCharged(x, free, 100, 100);
            Ledgers.addCharged(x, 90, 100, 100);
            Check.due(20, x, "chargeOverhead", 20);
            overhead(x, Math.min(free, 10), 20 - Math.min(free, 10));
            Check.due(free - Math.min(free, 10), x, "freeOf", 0);
        }
        RestrictedFunds y = new RestrictedFunds();
        Ledgers.addCharged(y, 90, 100, 100);
        Ledgers.addCharged(y, 1, 100, 100);
        // A room of 1 is enough for a share of 1.
        Check.due(2, y, "chargeOverhead", 2);
        overhead(y, 1, 1);
    }

    /** The direct costs of funds that have no room are not in s, whatever keeps them from having room. */
    private static void fundsWithoutRoomDoNotCount() {
        RestrictedFunds x = new RestrictedFunds();
        Ledgers.addCharged(x, 0, 100, 1000);
        Ledgers.addCharged(x, 100, 100, 100);
        Ledgers.addCharged(x, 100, 0, 1000);
        Ledgers.addCharged(x, 100, 100, 300);
        x.addFund(500, 255, 999, 100);
        Check.due(40, x, "chargeOverhead", 40);
        overhead(x, 0, 10, 0, 30, 0);
        Check.due(1, x, "chargeOverhead", 1);
        overhead(x, 0, 11, 0, 30, 0);
    }

    /** "n what is left at the beginning of the round", not the amount of the call. */
    private static void whatIsLeftGoesToAnotherRound() {
        RestrictedFunds x = new RestrictedFunds();
        Ledgers.addCharged(x, 10, 100, 600);
        Ledgers.addCharged(x, 99, 100, 100);
        Ledgers.addCharged(x, 99, 100, 300);
        // 60, of which 10 is taken, 10 and 30; then of the 50 left 12 and 37; then 1.
        Check.due(100, x, "chargeOverhead", 100);
        overhead(x, 10, 23, 67);
    }

    /** A fund that is full after a round is not in the s of the next one, and gets nothing in it. */
    private static void aFundThatIsFullDropsOut() {
        RestrictedFunds x = new RestrictedFunds();
        Ledgers.addCharged(x, 50, 1, 500);
        Ledgers.addCharged(x, 50, 100, 250);
        Ledgers.addCharged(x, 50, 100, 250);
        // 10 is more than the room of 5; 5 and 5; then of the 5 left 2 and 2; then 1.
        Check.due(20, x, "chargeOverhead", 20);
        overhead(x, 5, 8, 7);
        Check.due(0, x, "roomOf", 0);
    }

    /** A fund whose share is 0 gets no 1 in a round in which another one gets something. */
    private static void onesOnlyIfNobodyGetsAnything() {
        RestrictedFunds x = Ledgers.charged(90, 100, 1, 1, 98);
        // 0, 0 and 49; then 0, 0 and 0 of 1, which goes to the first.
        Check.due(50, x, "chargeOverhead", 50);
        overhead(x, 1, 0, 49);
        RestrictedFunds y = Ledgers.charged(90, 100, 30, 30, 30);
        // 0, 0 and 0 of 2; and of 3 there is 1 for each.
        Check.due(2, y, "chargeOverhead", 2);
        overhead(y, 1, 1, 0);
        Check.due(3, y, "chargeOverhead", 3);
        overhead(y, 2, 2, 1);
    }

    private static void onesInTheOrderOfTheNumbers() {
        for (int amount = 1; amount <= 6; amount++) {
            RestrictedFunds x = Ledgers.charged(90, 100, 50, 50, 50, 50, 50, 50);
            Check.due(amount, x, "chargeOverhead", amount);
            for (int fund = 0; fund < 6; fund++) {
                Check.due(fund < amount ? 1 : 0, x, "overheadOf", fund);
            }
        }
        RestrictedFunds y = Ledgers.charged(90, 100, 1, 2, 3);
        Check.due(1, y, "chargeOverhead", 1);
        overhead(y, 1, 0, 0);
        // The first has no room any more: 0 and 0 of 1.
        Check.due(1, y, "chargeOverhead", 1);
        overhead(y, 1, 1, 0);
    }

    private static void onesForThoseThatHaveRoom() {
        RestrictedFunds x = new RestrictedFunds();
        Ledgers.addCharged(x, 0, 100, 50);
        Ledgers.addCharged(x, 90, 100, 50);
        Ledgers.addCharged(x, 90, 0, 50);
        Ledgers.addCharged(x, 90, 100, 50);
        Ledgers.addCharged(x, 90, 100, 50);
        Check.due(1, x, "chargeOverhead", 1);
        overhead(x, 0, 1, 0, 0, 0);
        Check.due(2, x, "chargeOverhead", 2);
        overhead(x, 0, 2, 0, 1, 0);
    }

    /** Ones end with the amount, and go on in new rounds as long as there is room. */
    private static void onesAsLongAsAnyIsLeft() {
        RestrictedFunds x = Ledgers.charged(90, 1, 100, 100, 100);
        Check.due(2, x, "chargeOverhead", 2);
        overhead(x, 1, 1, 0);
        Check.due(1, x, "chargeOverhead", 2);
        overhead(x, 1, 1, 1);
        Check.due(0, x, "chargeOverhead", 2);
        RestrictedFunds y = Ledgers.charged(90, 1, 199, 199, 199);
        Check.due(3, y, "chargeOverhead", 4);
        overhead(y, 1, 1, 1);
    }

    private static void whatAFundGetsIsTakenFromItsFreeMoney() {
        RestrictedFunds x = Ledgers.charged(90, 50, 100, 100);
        x.commit(0, 0, 30, 9);
        Check.due(20, x, "chargeOverhead", 20);
        Check.due(50, x, "freeOf", 0);
        Check.due(30, x, "committedOf", 0);
        Check.due(30, x, "leftOf", 0);
        Check.due(80, x, "freeOf", 1);
        Check.due(100, x, "directOf", 0);
        Check.due(100, x, "directOf", 1);
        Check.due(1, x, "chargeOverhead", 1);
        Check.due(49, x, "freeOf", 0);
        Check.due(80, x, "freeOf", 1);
    }

    /** Sixteen costs of 99999, each paid by the fund of its category: amounts times them are above the greatest int. */
    private static void sixFundsWithTheMostDirectCosts() {
        RestrictedFunds x = new RestrictedFunds();
        for (int fund = 0; fund < 6; fund++) {
            x.addFund(0, 1 << fund, 999, 100);
        }
        for (int k = 0; k < 16; k++) {
            int fund = k < 11 ? 0 : k - 10;
            x.deposit(fund, 99999);
            x.addCost(fund, 0, 99999);
        }
        Check.due(16 * 99999, x, "charge");
        for (int fund = 0; fund < 6; fund++) {
            Check.due(0, x, "roomOf", fund);
            x.deposit(fund, 99999);
            x.deposit(fund, 99999);
        }
        Check.due(11 * 99999, x, "directOf", 0);
        Check.due(2 * 99999, x, "roomOf", 0);
        Check.due(99999, x, "roomOf", 5);
        // 11 sixteenths are 68749, and one is 6249; of the 5 left 3 and 0; of the 2 left 1 and 0; then 1.
        Check.due(99999, x, "chargeOverhead", 99999);
        overhead(x, 68754, 6249, 6249, 6249, 6249, 6249);
    }
}
