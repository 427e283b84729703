/** "Terms": the days, the categories, the numbers, the ends of commitments, and which fund suits which cost. */
public final class TermsTest {
    public static void main(String[] args) {
        todayIs0AtFirst();
        daysUpTo999();
        daysOneByOne();
        categories0To7();
        everySetOfCategories();
        fundsAreNumberedInTheirOrder();
        costsAreNumberedInTheirOrder();
        thoseBehindMoveUpWhenOneIsCancelled();
        thoseBehindMoveUpWhenSomeLapse();
        thoseBehindMoveUpWhenNothingIsLeft();
        aCommitmentLapsesWhenItsDayHasPassed();
        aCommitmentOnTheLastDays();
        aCommitmentEndsWhenNothingIsLeft();
        whatIsLeftIsFreeMoneyAgain();
        aPlaceForACommitmentIsFreeAgain();
        theCommitmentsOfAFundTogether();
        aFundSuitsUpToItsLastDay();
        aFundSuitsWhateverTodayIs();
        aCommitmentPaysForItsCategoryAlone();
        aCommitmentMayOutlastItsFund();
        aFundMayBeAddedOrUsedAfterItsLastDay();
        objectsAreApart();
        theLastOf512Calls();
        Check.finish("TermsTest");
    }

    private static void todayIs0AtFirst() {
        RestrictedFunds x = new RestrictedFunds();
        Check.due(0, x, "today");
        Check.due(0, x, "addFund", 5, 1, 0, 0);
        Check.due(1, x, "commit", 0, 0, 1, 0);
        Check.due(0, x, "addCost", 0, 0, 5);
        Check.argument(x, "addCost", 0, 1, 5);
        Check.due(5, x, "charge");
        Check.due(0, x, "today");
    }

    private static void daysUpTo999() {
        RestrictedFunds x = new RestrictedFunds();
        Check.due(0, x, "advance", 998);
        Check.due(998, x, "today");
        Check.argument(x, "advance", 2);
        Check.due(998, x, "today");
        Check.due(0, x, "advance", 1);
        Check.due(999, x, "today");
        Check.argument(x, "advance", 1);
        Check.due(999, x, "today");
        Check.due(0, x, "addFund", 9, 1, 999, 100);
        Check.due(1, x, "commit", 0, 0, 4, 999);
        Check.due(0, x, "addCost", 0, 999, 6);
        Check.due(6, x, "charge");
        Check.due(0, x, "commitments");
        Check.due(3, x, "chargeOverhead", 7);
        Check.due(999, x, "today");
    }

    private static void daysOneByOne() {
        RestrictedFunds x = new RestrictedFunds();
        Check.due(0, x, "advance", 500);
        for (int day = 501; day <= 999; day++) {
            x.advance(1);
        }
        Check.due(999, x, "today");
        Check.argument(x, "advance", 1);
    }

    /** The first and the last category, of a fund that allows just the one or just the other. */
    private static void categories0To7() {
        RestrictedFunds x = new RestrictedFunds();
        x.addFund(10, 0b00000001, 5, 0);
        x.addFund(20, 0b10000000, 5, 0);
        Check.state(x, "commit", 0, 7, 1, 5);
        Check.state(x, "commit", 1, 0, 1, 5);
        Check.due(1, x, "commit", 0, 0, 1, 5);
        Check.due(2, x, "commit", 1, 7, 2, 5);
        x.addCost(0, 0, 99);
        x.addCost(7, 0, 99);
        Check.due(30, x, "charge");
        Check.due(10, x, "paidBy", 0, 0);
        Check.due(0, x, "paidBy", 0, 1);
        Check.due(0, x, "paidBy", 1, 0);
        Check.due(20, x, "paidBy", 1, 1);
        Check.due(0, x, "commitments");
    }

    /** "Bit k for the category k": each of the 256 sets, against each category. */
    private static void everySetOfCategories() {
        for (int set = 0; set < 256; set++) {
            RestrictedFunds x = new RestrictedFunds();
            x.addFund(99999, set, 5, 0);
            for (int category = 0; category < 8; category++) {
                boolean allowed = Integer.toBinaryString(256 + set).charAt(8 - category) == '1';
                x.addCost(category, 0, 3);
                Check.due(allowed ? 3 : 0, x, "wouldPay", category);
                Check.due(allowed ? RestrictedFunds.CHARGEABLE : RestrictedFunds.NO_FUND, x, "reason", category);
                if (allowed) {
                    Check.due(1, x, "commit", 0, category, 1, 5);
                    x.cancel(0);
                } else {
                    Check.state(x, "commit", 0, category, 1, 5);
                }
            }
            Check.due(3 * Integer.bitCount(set), x, "charge");
        }
    }

    private static void fundsAreNumberedInTheirOrder() {
        RestrictedFunds x = new RestrictedFunds();
        for (int fund = 0; fund < 6; fund++) {
            Check.due(fund, x, "funds");
            Check.due(fund, x, "addFund", 100 - fund, 1, 900 - fund, 0);
        }
        Check.due(6, x, "funds");
        for (int fund = 0; fund < 6; fund++) {
            Check.due(100 - fund, x, "freeOf", fund);
        }
    }

    private static void costsAreNumberedInTheirOrder() {
        RestrictedFunds x = new RestrictedFunds();
        x.advance(50);
        for (int cost = 0; cost < 16; cost++) {
            Check.due(cost, x, "costs");
            Check.due(cost, x, "addCost", 7 - cost % 8, 50 - cost, 100 - cost);
        }
        Check.due(16, x, "costs");
        for (int cost = 0; cost < 16; cost++) {
            Check.due(100 - cost, x, "unpaidOf", cost);
        }
    }

    /** Six commitments of the amounts 1 to 6, until the days 11 to 16; in twos of one fund. */
    private static RestrictedFunds withSixCommitments() {
        RestrictedFunds x = new RestrictedFunds();
        for (int fund = 0; fund < 3; fund++) {
            x.addFund(20, 255, 30, 0);
        }
        for (int k = 0; k < 6; k++) {
            Check.due(k + 1, x, "commit", k / 2, k, k + 1, 11 + k);
        }
        return x;
    }

    /** The commitments that stand, told by their amounts when they were made. */
    private static void stand(RestrictedFunds x, int... amounts) {
        Check.due(amounts.length, x, "commitments");
        for (int k = 0; k < amounts.length; k++) {
            Check.due(amounts[k], x, "leftOf", k);
            Check.due((amounts[k] - 1) / 2, x, "fundOf", k);
            Check.due(10 + amounts[k], x, "untilOf", k);
        }
        Check.bounds(x, "leftOf", amounts.length);
    }

    private static void thoseBehindMoveUpWhenOneIsCancelled() {
        RestrictedFunds first = withSixCommitments();
        Check.due(1, first, "cancel", 0);
        stand(first, 2, 3, 4, 5, 6);
        RestrictedFunds last = withSixCommitments();
        Check.due(6, last, "cancel", 5);
        stand(last, 1, 2, 3, 4, 5);
        RestrictedFunds x = withSixCommitments();
        Check.due(4, x, "cancel", 3);
        stand(x, 1, 2, 3, 5, 6);
        Check.due(3, x, "cancel", 2);
        stand(x, 1, 2, 5, 6);
        Check.due(5, x, "commit", 1, 7, 3, 13);
        stand(x, 1, 2, 5, 6, 3);
    }

    private static void thoseBehindMoveUpWhenSomeLapse() {
        RestrictedFunds x = withSixCommitments();
        Check.due(0, x, "advance", 11);
        stand(x, 1, 2, 3, 4, 5, 6);
        Check.due(1, x, "advance", 1);
        stand(x, 2, 3, 4, 5, 6);
        Check.due(2, x, "advance", 2);
        stand(x, 4, 5, 6);
        Check.due(3, x, "advance", 3);
        stand(x);
        RestrictedFunds all = withSixCommitments();
        Check.due(6, all, "advance", 999);
        stand(all);
        RestrictedFunds y = new RestrictedFunds();
        y.addFund(20, 1, 30, 0);
        for (int until : new int[] {7, 5, 8, 5, 6, 7}) {
            y.commit(0, 0, 1, until);
        }
        Check.due(3, y, "advance", 7);
        Check.due(3, y, "commitments");
        Check.due(7, y, "untilOf", 0);
        Check.due(8, y, "untilOf", 1);
        Check.due(7, y, "untilOf", 2);
    }

    private static void thoseBehindMoveUpWhenNothingIsLeft() {
        RestrictedFunds x = withSixCommitments();
        x.addCost(0, 0, 1);
        x.addCost(3, 0, 4);
        x.addCost(5, 0, 6);
        Check.due(11, x, "charge");
        stand(x, 2, 3, 5);
        RestrictedFunds all = withSixCommitments();
        for (int k = 0; k < 6; k++) {
            all.addCost(k, 0, k + 1);
        }
        Check.due(21, all, "charge");
        stand(all);
    }

    /** "Commitments until a day that is earlier than the new today lapse." */
    private static void aCommitmentLapsesWhenItsDayHasPassed() {
        RestrictedFunds x = new RestrictedFunds();
        x.addFund(10, 1, 30, 0);
        x.commit(0, 0, 2, 0);
        x.commit(0, 0, 3, 1);
        Check.due(1, x, "advance", 1);
        Check.due(7, x, "freeOf", 0);
        Check.due(1, x, "commitments");
        Check.due(3, x, "leftOf", 0);
        Check.due(1, x, "advance", 1);
        Check.due(10, x, "freeOf", 0);
        Check.due(0, x, "advance", 1);
        Check.due(10, x, "freeOf", 0);
    }

    private static void aCommitmentOnTheLastDays() {
        RestrictedFunds x = new RestrictedFunds();
        x.addFund(10, 1, 30, 0);
        x.commit(0, 0, 2, 998);
        x.commit(0, 0, 3, 999);
        Check.due(0, x, "advance", 998);
        Check.due(2, x, "commitments");
        Check.due(1, x, "advance", 1);
        Check.due(1, x, "commitments");
        Check.due(999, x, "untilOf", 0);
        Check.due(3, x, "committedOf", 0);
    }

    /** One that has 1 left stands; the free money of a fund that has nothing left does not end. */
    private static void aCommitmentEndsWhenNothingIsLeft() {
        RestrictedFunds x = new RestrictedFunds();
        x.addFund(5, 1, 30, 0);
        x.commit(0, 0, 5, 9);
        x.addCost(0, 0, 4);
        Check.due(4, x, "charge");
        Check.due(1, x, "commitments");
        Check.due(1, x, "leftOf", 0);
        x.addCost(0, 0, 1);
        Check.due(1, x, "charge");
        Check.due(0, x, "commitments");
        Check.due(0, x, "freeOf", 0);
        Check.due(0, x, "committedOf", 0);
        Check.due(1, x, "funds");
        Check.due(0, x, "advance", 10);
    }

    private static void whatIsLeftIsFreeMoneyAgain() {
        RestrictedFunds x = new RestrictedFunds();
        x.addFund(50, 3, 5, 0);
        x.addFund(50, 3, 30, 0);
        x.commit(0, 0, 20, 3);
        x.commit(1, 0, 10, 4);
        x.commit(1, 1, 7, 3);
        x.addCost(0, 0, 15);
        Check.due(15, x, "charge");
        Check.due(2, x, "advance", 4);
        Check.due(35, x, "freeOf", 0);
        Check.due(0, x, "committedOf", 0);
        Check.due(40, x, "freeOf", 1);
        Check.due(10, x, "committedOf", 1);
        Check.due(10, x, "cancel", 0);
        Check.due(50, x, "freeOf", 1);
        x.addCost(1, 0, 99);
        Check.due(85, x, "charge");
    }

    /** With six commitments none is taken; with five, in whichever way one has ended, just one more is. */
    private static void aPlaceForACommitmentIsFreeAgain() {
        RestrictedFunds x = withSixCommitments();
        Check.state(x, "commit", 0, 0, 1, 30);
        Check.due(2, x, "cancel", 1);
        Check.due(6, x, "commit", 0, 0, 1, 30);
        Check.state(x, "commit", 0, 0, 1, 30);
        Check.due(1, x, "advance", 12);
        Check.due(6, x, "commit", 0, 0, 1, 30);
        Check.state(x, "commit", 0, 0, 1, 30);
        x.addCost(2, 0, 2);
        Check.due(2, x, "charge");
        Check.state(x, "commit", 0, 0, 1, 30);
        x.addCost(2, 0, 1);
        Check.due(1, x, "charge");
        Check.due(6, x, "commit", 0, 0, 1, 30);
        Check.state(x, "commit", 0, 0, 1, 30);
        Check.due(6, x, "commitments");
    }

    /** From none to as many as there may be, of one fund and of another. */
    private static void theCommitmentsOfAFundTogether() {
        RestrictedFunds x = new RestrictedFunds();
        x.addFund(100, 1, 30, 0);
        x.addFund(100, 1, 30, 0);
        for (int k = 0; k < 6; k++) {
            Check.due(5 * k, x, "committedOf", 0);
            Check.due(100 - 5 * k, x, "freeOf", 0);
            x.commit(0, 0, 5, 9);
        }
        Check.due(30, x, "committedOf", 0);
        Check.due(0, x, "committedOf", 1);
        x.cancel(5);
        x.commit(1, 0, 7, 9);
        Check.due(25, x, "committedOf", 0);
        Check.due(7, x, "committedOf", 1);
        x.addCost(0, 0, 8);
        x.charge();
        Check.due(17, x, "committedOf", 0);
        Check.due(75, x, "freeOf", 0);
    }

    /** "The day of the cost is not later than the last day of the fund." */
    private static void aFundSuitsUpToItsLastDay() {
        for (int lastDay : new int[] {0, 1, 500, 998}) {
            RestrictedFunds x = new RestrictedFunds();
            x.advance(999);
            x.addFund(9, 1, lastDay, 0);
            x.addCost(0, lastDay + 1, 2);
            x.addCost(0, lastDay, 3);
            x.addCost(0, 0, 4);
            Check.due(RestrictedFunds.TOO_LATE, x, "reason", 0);
            Check.due(RestrictedFunds.CHARGEABLE, x, "reason", 1);
            Check.due(0, x, "wouldPay", 0);
            Check.due(3, x, "wouldPay", 1);
            Check.due(4, x, "wouldPay", 2);
            Check.due(7, x, "charge");
            Check.due(2, x, "freeOf", 0);
        }
    }

    private static void aFundSuitsWhateverTodayIs() {
        RestrictedFunds x = new RestrictedFunds();
        x.addFund(9, 1, 3, 0);
        x.advance(3);
        x.addCost(0, 3, 2);
        Check.due(2, x, "wouldPay", 0);
        x.advance(1);
        Check.due(2, x, "wouldPay", 0);
        x.addCost(0, 4, 2);
        Check.due(0, x, "wouldPay", 1);
        x.advance(995);
        Check.due(2, x, "wouldPay", 0);
        Check.due(RestrictedFunds.CHARGEABLE, x, "reason", 0);
        Check.due(RestrictedFunds.TOO_LATE, x, "reason", 1);
        Check.due(2, x, "charge");
    }

    private static void aCommitmentPaysForItsCategoryAlone() {
        RestrictedFunds x = new RestrictedFunds();
        x.addFund(20, 0b10000011, 9, 0);
        x.commit(0, 0, 8, 5);
        x.commit(0, 7, 12, 5);
        x.addCost(1, 0, 20);
        x.addCost(0, 0, 20);
        x.addCost(7, 0, 20);
        Check.due(0, x, "wouldPay", 0);
        Check.due(8, x, "wouldPay", 1);
        Check.due(12, x, "wouldPay", 2);
        Check.due(20, x, "wouldTake", 0);
        x.cancel(0);
        Check.due(8, x, "wouldPay", 0);
        Check.due(0, x, "wouldPay", 1);
    }

    /** "Which may be later than the last day of the fund": the costs are then bounded by the fund's day still. */
    private static void aCommitmentMayOutlastItsFund() {
        RestrictedFunds x = new RestrictedFunds();
        x.advance(20);
        x.addFund(20, 1, 10, 0);
        Check.due(1, x, "commit", 0, 0, 20, 999);
        x.addCost(0, 11, 5);
        x.addCost(0, 10, 6);
        Check.due(0, x, "wouldPay", 0);
        Check.due(6, x, "wouldPay", 1);
        Check.due(RestrictedFunds.TOO_LATE, x, "reason", 0);
        Check.due(RestrictedFunds.CHARGEABLE, x, "reason", 1);
        Check.due(6, x, "charge");
        Check.due(14, x, "leftOf", 0);
        Check.due(0, x, "advance", 979);
        Check.due(14, x, "leftOf", 0);
    }

    private static void aFundMayBeAddedOrUsedAfterItsLastDay() {
        RestrictedFunds x = new RestrictedFunds();
        x.advance(999);
        Check.due(0, x, "addFund", 20, 1, 0, 100);
        Check.due(25, x, "deposit", 0, 5);
        Check.due(1, x, "commit", 0, 0, 5, 999);
        x.addCost(0, 0, 7);
        Check.due(7, x, "charge");
        Check.due(13, x, "freeOf", 0);
        Check.due(5, x, "leftOf", 0);
        Check.due(7, x, "chargeOverhead", 8);
    }

    private static void objectsAreApart() {
        RestrictedFunds x = Ledgers.full();
        RestrictedFunds y = new RestrictedFunds();
        Check.due(0, y, "today");
        Check.due(0, y, "funds");
        Check.due(0, y, "commitments");
        Check.due(0, y, "costs");
        String before = Check.picture(x);
        y.addFund(5, 1, 5, 100);
        y.addCost(0, 0, 3);
        y.charge();
        y.chargeOverhead(1);
        y.advance(7);
        Check.isStill(before, x);
        Check.due(1, y, "overheadOf", 0);
    }

    /** "An object is used for at most 512 calls": the last one still answers. */
    private static void theLastOf512Calls() {
        RestrictedFunds x = new RestrictedFunds();
        x.addFund(99999, 1, 5, 0);
        for (int call = 2; call <= 509; call++) {
            x.deposit(0, 99999);
        }
        Check.due(99999 * 509, x, "freeOf", 0);
        x.addCost(0, 0, 99999);
        Check.due(99999, x, "charge");
        RestrictedFunds y = new RestrictedFunds();
        y.addFund(10, 1, 5, 0);
        for (int call = 2; call < 512; call += 2) {
            y.commit(0, 0, 10, 5);
            y.cancel(0);
        }
        Check.due(1, y, "commit", 0, 0, 10, 5);
    }
}
