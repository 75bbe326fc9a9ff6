/** The sentences of the promises 16 to 26 that name a boundary case, a test for each. */
public final class EdgesOfWeeksTest {
    private EdgesOfWeeksTest() {
    }

    public static void main(String[] args) {
        Check.sentence("16: what is paid to all drivers, together", EdgesOfWeeksTest::closeTogether);
        Check.sentence("16: throws if a ride is under way", EdgesOfWeeksTest::closeUnderWay);
        Check.sentence("16: throws if 20 weeks have been closed", EdgesOfWeeksTest::closeTwenty);
        Check.sentence("17: the present week", EdgesOfWeeksTest::presentWeek);
        byWeek();
        ofDriver();
        ofRider();
        Check.end();
    }

    private static void byWeek() {
        Check.sentence("18: week: 0 up to the present week", EdgesOfWeeksTest::earningsWeeks);
        Check.sentence("18: by the rides as they are now", EdgesOfWeeksTest::earningsNow);
        Check.sentence("18: throws if there is no such driver", EdgesOfWeeksTest::earningsNoDriver);
        Check.sentence("18: throws if week is out of range", EdgesOfWeeksTest::earningsNoWeek);
        Check.sentence("19: week: 0 up to the present week", EdgesOfWeeksTest::topUpWeeks);
        Check.sentence("19: by the rides as they are now", EdgesOfWeeksTest::topUpNow);
        Check.sentence("19: throws if there is no such driver", EdgesOfWeeksTest::topUpNoDriver);
        Check.sentence("19: throws if week is out of range", EdgesOfWeeksTest::topUpNoWeek);
        Check.sentence("20: week: 0 up to the present week", EdgesOfWeeksTest::bonusWeeks);
        Check.sentence("20: by the rides as they are now", EdgesOfWeeksTest::bonusNow);
        Check.sentence("20: throws if there is no such driver", EdgesOfWeeksTest::bonusNoDriver);
        Check.sentence("20: throws if week is out of range", EdgesOfWeeksTest::bonusNoWeek);
        Check.sentence("21: week: 0 up to the present week", EdgesOfWeeksTest::payWeeks);
        Check.sentence("21: earnings, top-up and bonus together", EdgesOfWeeksTest::payTogether);
        Check.sentence("21: throws if there is no such driver", EdgesOfWeeksTest::payNoDriver);
        Check.sentence("21: throws if week is out of range", EdgesOfWeeksTest::payNoWeek);
    }

    private static void ofDriver() {
        Check.sentence("22: the pay for all closed weeks less all that was paid", EdgesOfWeeksTest::balanceClosed);
        Check.sentence("22: which may be below 0", EdgesOfWeeksTest::balanceBelow);
        Check.sentence("22: throws if there is no such driver", EdgesOfWeeksTest::balanceNoDriver);
        Check.sentence("23: the sum over all closed weeks", EdgesOfWeeksTest::paidSum);
        Check.sentence("23: throws if there is no such driver", EdgesOfWeeksTest::paidNoDriver);
    }

    private static void ofRider() {
        Check.sentence("24: all finished rides less the refunds", EdgesOfWeeksTest::spentFinished);
        Check.sentence("24: throws if there is no such rider", EdgesOfWeeksTest::spentNoRider);
        Check.sentence("25: the sum, which may be below 0", EdgesOfWeeksTest::houseBelow);
        Check.sentence("26: all finished rides, refunds not taken off", EdgesOfWeeksTest::averageFinished);
        Check.sentence("26: those for which more than 0 was charged", EdgesOfWeeksTest::averageMoreThanNothing);
        Check.sentence("26: as a float, divided by a float", EdgesOfWeeksTest::averageFloat);
        Check.sentence("26: throws if there is no such rider", EdgesOfWeeksTest::averageNoRider);
        Check.sentence("26: throws if there are none", EdgesOfWeeksTest::averageNone);
    }

    // ---- 16

    private static void closeTogether() {
        Check.due("no rides", () -> new Wheelpay().closeWeek(), 0);
        Wheelpay x = new Wheelpay();
        for (int driver = 0; driver < 5; driver++) {
            Given.finished(x, driver, 0, 1 << driver);
        }
        Check.due("five drivers", x::closeWeek, 25 * 31);
        Check.due("an empty week", x::closeWeek, 0);
        Given.finished(x, 4, 0, 1);
        Check.due("the last driver alone", x::closeWeek, 25);
    }

    private static void closeUnderWay() {
        for (int i = 0; i < 5; i++) {
            int driver = i;
            Refusal.due("driver " + driver, () -> {
                Wheelpay x = Given.oneFinished();
                x.start(driver);
                return x;
            }, Wheelpay::closeWeek, Given.STATE);
        }
        Refusal.due("ride 0 alone", Given::oneRide, Wheelpay::closeWeek, Given.STATE);
        Refusal.due("ride 39 alone", Given::fortyRides, Wheelpay::closeWeek, Given.STATE);
        Wheelpay x = Given.oneRide();
        Given.emptyRides(x, 1, 3);
        Check.refused("ride 0 of four", x::closeWeek, Given.STATE);
        x.finish(0);
        Check.due("finished", x::closeWeek, 1000);
    }

    private static void closeTwenty() {
        Wheelpay x = new Wheelpay();
        for (int week = 0; week < 20; week++) {
            Check.due("closing week " + week, x::closeWeek, 0);
        }
        Check.refused("20 are closed", x::closeWeek, Given.STATE);
        Refusal.due("20 are closed, with a ride", Given::allWeeksClosed, Wheelpay::closeWeek, Given.STATE);
        Check.due("rides go on", () -> x.start(0), 0);
        Check.refused("20 are closed, a ride is under way", x::closeWeek, Given.STATE);
        x.drive(0, 1, 4);
        x.finish(0);
        Check.refused("20 are closed, a ride is finished", x::closeWeek, Given.STATE);
        Check.due("the pay of week 20", () -> x.pay(0, 20), 100);
        Check.due("is never paid", () -> x.paid(0), 0);
        Check.due("nor in the balance", () -> x.balance(0), 0);
    }

    // ---- 17

    private static void presentWeek() {
        Wheelpay x = new Wheelpay();
        for (int week = 0; week < 20; week++) {
            Check.due("week " + week, x::week, week);
            x.closeWeek();
        }
        Check.due("week 20", x::week, 20);
        Check.refused("no week 21", x::closeWeek, Given.STATE);
        Check.due("still week 20", x::week, 20);
    }

    // ---- 18

    /** In each week from 0 to 20 driver 0 finishes a ride of week + 1 minutes without riders. */
    private static Wheelpay allWeeks() {
        Wheelpay x = new Wheelpay();
        for (int week = 0; week <= 20; week++) {
            Given.finished(x, 0, 0, week + 1);
            if (week < 20) {
                x.closeWeek();
            }
        }
        return x;
    }

    private static void earningsWeeks() {
        Wheelpay x = new Wheelpay();
        for (int i = 0; i <= 20; i++) {
            int week = i;
            Check.due("empty week " + week, () -> x.earnings(4, week), 0);
            Given.charged(x, 4, 10 * (week + 1), 0);
            Check.due("present week " + week, () -> x.earnings(4, week), 8 * (week + 1));
            Check.due("week 0", () -> x.earnings(4, 0), 8);
            if (week < 20) {
                x.closeWeek();
            }
        }
    }

    private static void earningsNow() {
        Wheelpay x = Given.oneFinished();
        Check.due("480 and 320 and 480", () -> x.earnings(0, 0), 1280);
        x.closeWeek();
        x.dispute(0, 0);
        Check.due("disputed", () -> x.earnings(0, 0), 1280);
        x.settle(0, 0, 100, true);
        Check.due("a closed week, refunded", () -> x.earnings(0, 0), 800);
        Given.settled(x, 0, 9, 100, false);
        Check.due("refunded by the house", () -> x.earnings(0, 0), 800);
        Given.settled(x, 0, 3, 100, true);
        Check.due("the fee too", () -> x.earnings(0, 0), 480);
    }

    private static void earningsNoDriver() {
        Refusal.noSuchDriver("earnings", Given::oneFinished, (x, driver) -> x.earnings(driver, 0));
        Refusal.noSuchDriver("earnings in week 1", Given::oneFinished, (x, driver) -> x.earnings(driver, 1));
    }

    private static void earningsNoWeek() {
        Refusal.noSuchWeek("earnings", (x, week) -> x.earnings(0, week));
        Refusal.noSuchWeek("earnings of driver 4", (x, week) -> x.earnings(4, week));
    }

    // ---- 19

    private static void topUpWeeks() {
        Wheelpay x = allWeeks();
        for (int i = 0; i <= 20; i++) {
            int week = i;
            Check.due("week " + week, () -> x.topUp(0, week), 25 * (week + 1));
            Check.due("another driver, week " + week, () -> x.topUp(4, week), 0);
        }
    }

    private static void topUpNow() {
        Wheelpay x = new Wheelpay();
        Given.charged(x, 0, 1000, 0);
        Given.charged(x, 0, 1000, 9);
        x.closeWeek();
        Check.due("1600 earned, 2 minutes", () -> x.topUp(0, 0), 0);
        Given.settled(x, 0, 0, 99, true);
        Given.settled(x, 1, 9, 99, true);
        Check.due("16 earned, 2 minutes", () -> x.topUp(0, 0), 34);
        Wheelpay y = new Wheelpay();
        Given.charged(y, 0, 10, 0);
        Given.charged(y, 0, 10, 9);
        y.closeWeek();
        Check.due("16 earned, 2 minutes", () -> y.topUp(0, 0), 34);
        Given.settled(y, 0, 0, 100, true);
        Check.due("8 earned, 1 minute", () -> y.topUp(0, 0), 17);
        Given.settled(y, 1, 9, 100, true);
        Check.due("all is void", () -> y.topUp(0, 0), 0);
    }

    private static void topUpNoDriver() {
        Refusal.noSuchDriver("topUp", Given::oneFinished, (x, driver) -> x.topUp(driver, 0));
        Refusal.noSuchDriver("topUp in week 1", Given::oneFinished, (x, driver) -> x.topUp(driver, 1));
    }

    private static void topUpNoWeek() {
        Refusal.noSuchWeek("topUp", (x, week) -> x.topUp(0, week));
        Refusal.noSuchWeek("topUp of driver 4", (x, week) -> x.topUp(4, week));
    }

    // ---- 20

    private static void bonusWeeks() {
        Wheelpay x = new Wheelpay();
        for (int week = 0; week <= 20; week++) {
            if (week % 4 == 0) {
                Given.emptyRides(x, 0, week == 20 ? 9 : 3);
            }
            if (week < 20) {
                x.closeWeek();
            }
        }
        for (int i = 0; i < 20; i++) {
            int week = i;
            Check.due("week " + week, () -> x.bonus(0, week), week % 4 == 0 ? 1000 : 0);
            Check.due("another driver, week " + week, () -> x.bonus(4, week), 0);
        }
        Check.due("week 20", () -> x.bonus(0, 20), 6000);
    }

    private static void bonusNow() {
        Wheelpay x = new Wheelpay();
        for (int rider = 0; rider < 9; rider++) {
            Given.charged(x, 0, 10, rider);
        }
        x.closeWeek();
        int[] due = {3000, 3000, 3000, 1000, 1000, 1000, 0, 0, 0};
        Check.due("none is void", () -> x.bonus(0, 0), 6000);
        for (int i = 0; i < 9; i++) {
            Given.settled(x, i, i, 100, true);
            Check.due((i + 1) + " void", () -> x.bonus(0, 0), due[i]);
        }
    }

    private static void bonusNoDriver() {
        Refusal.noSuchDriver("bonus", Given::oneFinished, (x, driver) -> x.bonus(driver, 0));
        Refusal.noSuchDriver("bonus in week 1", Given::oneFinished, (x, driver) -> x.bonus(driver, 1));
    }

    private static void bonusNoWeek() {
        Refusal.noSuchWeek("bonus", (x, week) -> x.bonus(0, week));
        Refusal.noSuchWeek("bonus of driver 4", (x, week) -> x.bonus(4, week));
    }

    // ---- 21

    private static void payWeeks() {
        Wheelpay x = allWeeks();
        for (int i = 0; i <= 20; i++) {
            int week = i;
            Check.due("week " + week, () -> x.pay(0, week), 25 * (week + 1));
            Check.due("another driver, week " + week, () -> x.pay(4, week), 0);
        }
    }

    private static void payTogether() {
        Wheelpay x = new Wheelpay();
        Check.due("no rides", () -> x.pay(0, 0), 0);
        Given.emptyRides(x, 0, 2);
        Check.due("nothing", () -> x.pay(0, 0), 0);
        Given.emptyRides(x, 0, 1);
        Check.due("a bonus alone", () -> x.pay(0, 0), 1000);
        Given.finished(x, 0, 0, 2);
        Check.due("a bonus and a top-up", () -> x.pay(0, 0), 1050);
        Given.charged(x, 0, 10, 0);
        Check.due("8 earned, a top-up of 67, a bonus", () -> x.pay(0, 0), 8 + 67 + 1000);
        Given.charged(x, 0, 1000, 0);
        Check.due("808 earned, a larger bonus", () -> x.pay(0, 0), 808 + 3000);
        Given.charged(x, 1, 5, 0);
        Given.settled(x, 6, 0, 100, true);
        Check.due("a void ride", () -> x.pay(1, 0), 0);
    }

    private static void payNoDriver() {
        Refusal.noSuchDriver("pay", Given::oneFinished, (x, driver) -> x.pay(driver, 0));
        Refusal.noSuchDriver("pay in week 1", Given::oneFinished, (x, driver) -> x.pay(driver, 1));
    }

    private static void payNoWeek() {
        Refusal.noSuchWeek("pay", (x, week) -> x.pay(0, week));
        Refusal.noSuchWeek("pay of driver 4", (x, week) -> x.pay(4, week));
    }

    // ---- 22

    private static void balanceClosed() {
        Wheelpay x = Given.oneFinished();
        Check.due("no closed week", () -> x.balance(0), 0);
        x.closeWeek();
        Check.due("closed and paid", () -> x.balance(0), 0);
        Check.due("it was paid", () -> x.paid(0), 1280);
        Given.settled(x, 0, 0, 50, true);
        Check.due("240 less", () -> x.balance(0), -240);
        Given.finished(x, 0, 100, 1, 0);
        Check.due("the present week does not count", () -> x.balance(0), -240);
        x.closeWeek();
        Check.due("the debt is paid off", () -> x.balance(0), 0);
        Check.due("what was over was paid", () -> x.paid(0), 1280 + 8016 - 240);
    }

    private static void balanceBelow() {
        for (int i = 0; i < 5; i++) {
            int driver = i;
            Wheelpay x = new Wheelpay();
            Given.charged(x, driver, 1000, 0);
            x.closeWeek();
            Given.settled(x, 0, 0, 100, true);
            Check.due("driver " + driver, () -> x.balance(driver), -800);
            x.closeWeek();
            Check.due("driver " + driver + ", a week later", () -> x.balance(driver), -800);
            Check.due("another driver", () -> x.balance((driver + 1) % 5), 0);
        }
    }

    private static void balanceNoDriver() {
        Refusal.noSuchDriver("balance", Wheelpay::new, Wheelpay::balance);
        Refusal.noSuchDriver("balance in the last week", Given::allWeeksClosed, Wheelpay::balance);
    }

    // ---- 23

    private static void paidSum() {
        Wheelpay x = allWeeks();
        Check.due("weeks 0 to 19", () -> x.paid(0), 25 * 210);
        Check.due("another driver", () -> x.paid(4), 0);
        Wheelpay y = Given.oneFinished();
        Check.due("no closed week", () -> y.paid(0), 0);
        y.closeWeek();
        Check.due("one", () -> y.paid(0), 1280);
        Given.settled(y, 0, 0, 100, true);
        Check.due("a refund takes nothing back", () -> y.paid(0), 1280);
        y.closeWeek();
        Check.due("nor does closing below 0", () -> y.paid(0), 1280);
    }

    private static void paidNoDriver() {
        Refusal.noSuchDriver("paid", Wheelpay::new, Wheelpay::paid);
        Refusal.noSuchDriver("paid in the last week", Given::allWeeksClosed, Wheelpay::paid);
    }

    // ---- 24

    private static void spentFinished() {
        Wheelpay x = new Wheelpay();
        Check.due("no rides", () -> x.spent(0), 0);
        Given.driven(x, 0, 1, 1, 0, 9);
        Check.due("under way", () -> x.spent(0), 0);
        x.finish(0);
        Check.due("finished", () -> x.spent(0), 60);
        Check.due("the other one", () -> x.spent(9), 60);
        Check.due("nobody", () -> x.spent(1), 0);
        x.closeWeek();
        Given.finished(x, 4, 1, 1, 9);
        Check.due("of two weeks", () -> x.spent(9), 180);
        Given.settled(x, 0, 9, 99, false);
        Check.due("59 back", () -> x.spent(9), 121);
        Given.settled(x, 1, 9, 100, true);
        Check.due("120 back", () -> x.spent(9), 1);
        Given.settled(x, 0, 0, 100, true);
        Check.due("all back", () -> x.spent(0), 0);
    }

    private static void spentNoRider() {
        Refusal.noSuchRider("spent", Wheelpay::new, Wheelpay::spent);
        Refusal.noSuchRider("spent after a ride", Given::oneFinished, Wheelpay::spent);
    }

    // ---- 25

    private static void houseBelow() {
        Wheelpay x = new Wheelpay();
        Given.finished(x, 0, 0, 1);
        Check.due("a top-up", x::house, -25);
        Given.emptyRides(x, 4, 9);
        Check.due("a bonus", x::house, -6025);
        Given.charged(x, 1, 2000, 0);
        Check.due("a fifth of 2000", x::house, -5625);
        Given.settled(x, 10, 0, 100, false);
        Check.due("a refund by the house", x::house, -7625);
        x.closeWeek();
        Check.due("closing changes nothing", x::house, -7625);
        Wheelpay y = new Wheelpay();
        y.setRates(1000, 1000);
        Given.finished(y, 0, 100, 120, 0);
        Check.due("a large fifth", y::house, 44000);
        Given.settled(y, 0, 0, 20, false);
        Check.due("just nothing", y::house, 0);
    }

    // ---- 26

    private static void averageFinished() {
        Wheelpay x = new Wheelpay();
        Given.charged(x, 0, 3, 0);
        x.setRates(0, 5);
        Given.driven(x, 0, 1, 1, 0);
        Check.due("not one under way", () -> x.averageCharge(0), 3.0f);
        x.finish(1);
        Given.charged(x, 1, 8, 0);
        Check.due("3 and 5 and 8", () -> x.averageCharge(0), 16.0f / 3.0f);
        Given.settled(x, 0, 0, 100, true);
        Given.settled(x, 2, 0, 100, false);
        x.closeWeek();
        Check.due("refunded, of a closed week", () -> x.averageCharge(0), 16.0f / 3.0f);
        x.start(4);
        x.book(3, 0);
        x.finish(3);
        Check.due("a fee too", () -> x.averageCharge(0), 104.0f);
    }

    private static void averageMoreThanNothing() {
        Wheelpay x = new Wheelpay();
        Given.charged(x, 0, 1, 0, 9);
        Check.due("charged 1", () -> x.averageCharge(0), 1.0f);
        Given.charged(x, 0, 0, 0, 9);
        Given.emptyRides(x, 0, 3);
        Check.due("rides for nothing do not count", () -> x.averageCharge(0), 1.0f);
        Check.refused("aboard twice for nothing", () -> x.averageCharge(9), Given.STATE);
        Given.charged(x, 0, 2, 9);
        Check.due("only the last one counts", () -> x.averageCharge(9), 2.0f);
    }

    private static void averageFloat() {
        Wheelpay x = new Wheelpay();
        Given.charged(x, 0, 1, 0);
        Given.charged(x, 0, 2, 0);
        Check.due("3 by 2", () -> x.averageCharge(0), 1.5f);
        Given.charged(x, 0, 2, 0);
        Check.due("5 by 3", () -> x.averageCharge(0), 5.0f / 3.0f);
        for (int i = 3; i < 40; i++) {
            Given.charged(x, 0, 1, 0);
        }
        Check.due("42 by 40", () -> x.averageCharge(0), 42.0f / 40.0f);
        // A float holds no odd number beyond 16777216, so the sum itself is rounded first.
        Check.due("16777217", () -> chargedInAll(16777217).averageCharge(0), 16777216.0f);
        Check.due("16777219", () -> chargedInAll(16777219).averageCharge(0), 16777220.0f);
        Wheelpay y = chargedInAll(16777219);
        Given.charged(y, 0, 2, 0);
        Given.charged(y, 0, 2, 0);
        Check.due("16777223 by 3", () -> y.averageCharge(0), 5592408.0f);
    }

    /** Ride 0 is finished, and rider 0 was charged the cents for it. */
    private static Wheelpay chargedInAll(int cents) {
        Wheelpay x = Given.oneRide();
        x.board(0, 0);
        x.setRates(1000, 1000);
        int left = cents;
        for (; left >= 220000; left -= 220000) {
            x.drive(0, 100, 120);
        }
        x.setRates(1000, 0);
        for (; left >= 100000; left -= 100000) {
            x.drive(0, 100, 1);
        }
        x.drive(0, left / 1000, 1);
        x.setRates(0, left % 1000);
        x.drive(0, 0, 1);
        x.finish(0);
        return x;
    }

    private static void averageNoRider() {
        Refusal.noSuchRider("averageCharge", Wheelpay::new, Wheelpay::averageCharge);
        Refusal.noSuchRider("averageCharge after a ride", Given::oneFinished, Wheelpay::averageCharge);
    }

    private static void averageNone() {
        Refusal.due("no rides", Wheelpay::new, x -> x.averageCharge(0), Given.STATE);
        Refusal.due("rides of others", Given::oneFinished, x -> x.averageCharge(1), Given.STATE);
        Refusal.due("a ride under way", () -> {
            Wheelpay x = new Wheelpay();
            Given.driven(x, 0, 1, 1, 0);
            return x;
        }, x -> x.averageCharge(0), Given.STATE);
        Refusal.due("a ride for nothing", () -> {
            Wheelpay x = new Wheelpay();
            Given.charged(x, 0, 0, 0);
            return x;
        }, x -> x.averageCharge(0), Given.STATE);
    }
}
