import java.util.List;

/** The sentences of "What it is" and "Terms" that name a boundary case, a test for each. */
public final class EdgesOfTermsTest {
    private EdgesOfTermsTest() {
    }

    public static void main(String[] args) {
        ofRidesAndSeats();
        ofStretchesAndFees();
        ofDisputesAndPay();
        ofWeeksAndHouse();
        ofExceptions();
        Check.end();
    }

    private static void ofRidesAndSeats() {
        Check.sentence("at most 512 calls after it has been made", EdgesOfTermsTest::lastCall);
        Check.sentence("Riders are 0 to 9", EdgesOfTermsTest::riders);
        Check.sentence("drivers 0 to 4", EdgesOfTermsTest::drivers);
        Check.sentence("Weeks are numbered from 0; the present week is 0 at first", EdgesOfTermsTest::weeks);
        Check.sentence("Rides are numbered from 0 in the order; at most 40", EdgesOfTermsTest::rides);
        Check.sentence("A ride belongs to the week in which it was started", EdgesOfTermsTest::weekOfRide);
        Check.sentence("It is under way until it is finished", EdgesOfTermsTest::underWay);
        Check.sentence("A ride has 4 seats", EdgesOfTermsTest::fourSeats);
        Check.sentence("board, with a booked seat or a free one", EdgesOfTermsTest::bookedOrFree);
        Check.sentence("a seat is free if neither booked nor taken", EdgesOfTermsTest::freeSeats);
        Check.sentence("A rider who has left can book and board again", EdgesOfTermsTest::againAfterLeaving);
    }

    private static void ofStretchesAndFees() {
        Check.sentence("it costs, by the rates as they are then", EdgesOfTermsTest::ratesAsThen);
        Check.sentence("the cost divided by their number, rounded down", EdgesOfTermsTest::roundedDown);
        Check.sentence("what is left cent by cent, from the lowest number on", EdgesOfTermsTest::centByCent);
        Check.sentence("If nobody is aboard, it costs nothing", EdgesOfTermsTest::nobodyAboard);
        Check.sentence("The minutes are those of all its stretches", EdgesOfTermsTest::minutesOfAll);
        Check.sentence("if the ride has had a stretch, 250", EdgesOfTermsTest::cancelFee);
        Check.sentence("who has a booked seat when it is finished, 400", EdgesOfTermsTest::absenceFee);
        Check.sentence("Riders aboard leave when it is finished", EdgesOfTermsTest::leaveAtTheEnd);
    }

    private static void ofDisputesAndPay() {
        Check.sentence("can be disputed once", EdgesOfTermsTest::disputedOnce);
        Check.sentence("a percentage of it, rounded down", EdgesOfTermsTest::percentage);
        Check.sentence("a percentage of it, of a charge whose product an int does not hold",
            EdgesOfTermsTest::percentageOfLarge);
        Check.sentence("less a fifth of it, the fifth rounded down", EdgesOfTermsTest::fifth);
        Check.sentence("if settled as the driver's fault, the charge less the refund",
            EdgesOfTermsTest::lessTheRefund);
        Check.sentence("void if somebody was charged for it", EdgesOfTermsTest::voidIfSomebodyWasCharged);
        Check.sentence("void if everybody who was charged (more than 0)", EdgesOfTermsTest::voidIfEverybody);
        Check.sentence("void if refunded all by the driver's fault", EdgesOfTermsTest::voidIfRefundedAll);
        Check.sentence("Earnings: all riders of all finished rides of the week", EdgesOfTermsTest::earnings);
        Check.sentence("the floor, 1500 * minutes / 60, of rides that are not void", EdgesOfTermsTest::floor);
        Check.sentence("less the earnings, if that is more than 0", EdgesOfTermsTest::lessEarnings);
        Check.sentence("for 3 finished rides or more 1000, for 6 3000, for 9 6000", EdgesOfTermsTest::bonus);
        Check.sentence("3, 6 or 9 rides that are not void", EdgesOfTermsTest::bonusWithoutVoid);
    }

    private static void ofWeeksAndHouse() {
        Check.sentence("paid the balance, if it is more than 0", EdgesOfTermsTest::moreThanNothing);
        Check.sentence("then the next week begins", EdgesOfTermsTest::nextWeek);
        Check.sentence("the one that is just being closed included", EdgesOfTermsTest::weekJustClosed);
        Check.sentence("the balance, which may fall below 0", EdgesOfTermsTest::belowNothing);
        Check.sentence("the house: charges less refunds less pay", EdgesOfTermsTest::house);
        Check.sentence("for all weeks, the present one included", EdgesOfTermsTest::houseOfAllWeeks);
        Check.sentence("What riders pay is what drivers and the house get", EdgesOfTermsTest::nothingIsLost);
    }

    private static void ofExceptions() {
        Check.sentence("IndexOutOfBoundsException for a ride, rider or driver that does not exist",
            EdgesOfTermsTest::doesNotExist);
        Check.sentence("IllegalArgumentException for another argument out of range",
            EdgesOfTermsTest::outOfRange);
        Check.sentence("IllegalStateException if a call is not possible now", EdgesOfTermsTest::notPossible);
        Check.sentence("IndexOutOfBoundsException goes first", EdgesOfTermsTest::indexFirst);
        Check.sentence("then IllegalArgumentException", EdgesOfTermsTest::argumentSecond);
        Check.sentence("a call that throws an exception changes nothing", EdgesOfTermsTest::changesNothing);
    }

    // ---- rides and seats

    private static void lastCall() {
        Wheelpay x = Given.oneRide();
        x.board(0, 0);
        for (int call = 3; call < 512; call++) {
            x.drive(0, 100, 120);
        }
        Check.due("call 512, finish(0)", () -> x.finish(0), 509 * 12400);
    }

    private static void riders() {
        for (int i = 0; i < 10; i++) {
            int rider = i;
            Wheelpay x = Given.oneRide();
            Check.due("book " + rider, () -> x.book(0, rider), 3);
            Check.due("cancel " + rider, () -> x.cancel(0, rider), 0);
            Check.due("board " + rider, () -> x.board(0, rider), 1);
            Check.due("aboard " + rider, () -> x.aboard(0), 1 << rider);
            Check.due("leave " + rider, () -> x.leave(0, rider), 0);
            x.book(0, rider);
            x.finish(0);
            Check.due("charge " + rider, () -> x.charge(0, rider), 400);
            Check.due("dispute " + rider, () -> x.dispute(0, rider), 400);
            Check.due("settle " + rider, () -> x.settle(0, rider, 50, true), 200);
            Check.due("spent " + rider, () -> x.spent(rider), 200);
            Check.due("averageCharge " + rider, () -> x.averageCharge(rider), 400.0f);
        }
    }

    private static void drivers() {
        Wheelpay x = new Wheelpay();
        for (int i = 0; i < 5; i++) {
            int driver = i;
            Check.due("start " + driver, () -> x.start(driver), driver);
            x.drive(driver, 0, 1 + driver);
            x.finish(driver);
            Check.due("earnings " + driver, () -> x.earnings(driver, 0), 0);
            Check.due("topUp " + driver, () -> x.topUp(driver, 0), 25 * (1 + driver));
            Check.due("bonus " + driver, () -> x.bonus(driver, 0), 0);
            Check.due("pay " + driver, () -> x.pay(driver, 0), 25 * (1 + driver));
        }
        x.closeWeek();
        for (int i = 0; i < 5; i++) {
            int driver = i;
            Check.due("paid " + driver, () -> x.paid(driver), 25 * (1 + driver));
            Check.due("balance " + driver, () -> x.balance(driver), 0);
        }
    }

    private static void weeks() {
        Wheelpay x = new Wheelpay();
        Check.due("week", x::week, 0);
        Check.due("pay in week 0", () -> x.pay(0, 0), 0);
        Refusal.due("pay in week 1", Wheelpay::new, y -> y.pay(0, 1), Given.ARGUMENT);
        x.closeWeek();
        Check.due("week after one", x::week, 1);
        Check.due("pay in week 1", () -> x.pay(0, 1), 0);
    }

    private static void rides() {
        Wheelpay x = new Wheelpay();
        for (int i = 0; i < 40; i++) {
            int driver = (4 + 3 * i) % 5;
            Check.due("start " + i, () -> x.start(driver), i);
            x.finish(i);
        }
        Check.refused("start 40", () -> x.start(0), Given.STATE);
        Check.due("ride 0", () -> x.aboard(0), 0);
        Check.due("ride 39", () -> x.aboard(39), 0);
        Check.refused("ride 40", () -> x.aboard(40), Given.OUT);
        Check.due("8 rides of driver 4", () -> x.bonus(4, 0), 3000);
    }

    private static void weekOfRide() {
        Wheelpay x = new Wheelpay();
        for (int week = 0; week <= 20; week++) {
            Given.charged(x, 3, 100 + 10 * week, week % 10);
            if (week < 20) {
                x.closeWeek();
            }
        }
        for (int i = 0; i <= 20; i++) {
            int week = i;
            Check.due("week " + week, () -> x.earnings(3, week), 80 + 8 * week);
        }
        Given.settled(x, 0, 0, 100, true);
        Given.settled(x, 19, 9, 100, true);
        Check.due("week 0, disputed in week 20", () -> x.earnings(3, 0), 0);
        Check.due("week 1", () -> x.earnings(3, 1), 88);
        Check.due("week 18", () -> x.earnings(3, 18), 224);
        Check.due("week 19, disputed in week 20", () -> x.earnings(3, 19), 0);
        Check.due("week 20", () -> x.earnings(3, 20), 240);
    }

    private static void underWay() {
        Wheelpay x = Given.oneRide();
        Check.due("just started: book", () -> x.book(0, 0), 3);
        Check.refused("just started: start", () -> x.start(0), Given.STATE);
        Check.refused("just started: closeWeek", x::closeWeek, Given.STATE);
        x.board(0, 0);
        x.drive(0, 10, 1);
        x.leave(0, 0);
        Check.due("everybody has left: drive", () -> x.drive(0, 1, 1), 0);
        Check.refused("everybody has left: dispute", () -> x.dispute(0, 0), Given.STATE);
        Check.due("everybody has left: earnings", () -> x.earnings(0, 0), 0);
        x.finish(0);
        Check.refused("finished: drive", () -> x.drive(0, 1, 1), Given.STATE);
        Check.due("finished: dispute", () -> x.dispute(0, 0), 1020);
        Check.due("finished: earnings", () -> x.earnings(0, 0), 816);
        Check.due("finished: start", () -> x.start(0), 1);
    }

    /** Riders 0 up to aboard - 1 are aboard, and those up to taken - 1 have booked. */
    private static Wheelpay taken(int aboard, int taken) {
        Wheelpay x = Given.oneRide();
        for (int rider = 0; rider < aboard; rider++) {
            x.board(0, rider);
        }
        for (int rider = aboard; rider < taken; rider++) {
            x.book(0, rider);
        }
        return x;
    }

    private static void fourSeats() {
        for (int i = 0; i <= 4; i++) {
            int aboard = i;
            String of = ", " + aboard + " aboard";
            int booked = 4 - aboard;
            Refusal.due("book, 4 taken" + of, () -> taken(aboard, 4), x -> x.book(0, 9), Given.STATE);
            Refusal.due("board, 4 taken" + of, () -> taken(aboard, 4), x -> x.board(0, 9), Given.STATE);
            if (booked > 0) {
                Check.due("book, 3 taken" + of, () -> taken(aboard, 3).book(0, 9), 0);
                Check.due("board, 3 taken" + of, () -> taken(aboard, 3).board(0, 9), aboard + 1);
            }
        }
        Wheelpay x = taken(0, 4);
        x.start(1);
        Check.due("a full ride fills no other", () -> x.book(1, 0), 3);
    }

    private static void bookedOrFree() {
        Wheelpay x = taken(2, 4);
        Check.due("full, with the booked seat", () -> x.board(0, 3), 3);
        Refusal.due("full, without one", () -> taken(2, 4), y -> y.board(0, 4), Given.STATE);
        Check.due("full, with the last booked seat", () -> x.board(0, 2), 4);
        Wheelpay z = taken(0, 3);
        Check.due("3 booked, the free seat", () -> z.board(0, 9), 1);
        Check.refused("3 booked, 1 aboard, none free", () -> z.board(0, 8), Given.STATE);
        Check.due("3 booked, 1 aboard, a booked one", () -> z.board(0, 0), 2);
    }

    private static void freeSeats() {
        Wheelpay x = Given.oneRide();
        Check.due("1 booked", () -> x.book(0, 0), 3);
        x.board(0, 0);
        Check.due("1 booked, 1 aboard with the booked seat", () -> x.book(0, 1), 2);
        x.board(0, 2);
        Check.due("2 booked, 2 aboard", () -> x.book(0, 3), 0);
        x.cancel(0, 1);
        Check.due("again after a cancel", () -> x.book(0, 4), 0);
        x.leave(0, 0);
        Check.due("again after a leave", () -> x.book(0, 5), 0);
        x.cancel(0, 3);
        x.leave(0, 2);
        Check.due("2 booked after all that", () -> x.book(0, 9), 1);
    }

    private static void againAfterLeaving() {
        Wheelpay x = taken(4, 4);
        x.drive(0, 1, 1);
        x.leave(0, 3);
        Check.due("book the last seat", () -> x.book(0, 3), 0);
        Check.due("board with it", () -> x.board(0, 3), 4);
        x.leave(0, 3);
        Check.due("board the last seat", () -> x.board(0, 3), 4);
        x.leave(0, 3);
        x.board(0, 9);
        Check.refused("book, where another took it", () -> x.book(0, 3), Given.STATE);
        Check.refused("board, where another took it", () -> x.board(0, 3), Given.STATE);
    }

    // ---- stretches and fees

    private static void ratesAsThen() {
        Wheelpay x = Given.oneRide();
        x.board(0, 0);
        Check.due("first rates", () -> x.drive(0, 2, 3), 260);
        x.setRates(0, 0);
        Check.due("for nothing", () -> x.drive(0, 100, 120), 0);
        x.setRates(1000, 0);
        Check.due("by kilometre", () -> x.drive(0, 2, 3), 2000);
        x.setRates(0, 1000);
        Check.due("by minute", () -> x.drive(0, 2, 3), 3000);
        x.setRates(1000, 1000);
        Check.due("no kilometres", () -> x.drive(0, 0, 1), 1000);
        Check.due("the dearest", () -> x.drive(0, 100, 120), 220000);
        x.setRates(1, 1);
        Check.due("all as they were then", () -> x.finish(0), 260 + 2000 + 3000 + 1000 + 220000);
    }

    private static void checkSplit(int cost, int[] ridersDownwards, int[] dueUpwards) {
        Wheelpay x = new Wheelpay();
        x.setRates(1, cost - 1);
        x.start(0);
        for (int rider : ridersDownwards) {
            x.board(0, rider);
        }
        String of = cost + " cents for " + ridersDownwards.length + " riders, ";
        Check.due(of + "the cost", () -> x.drive(0, 1, 1), cost);
        int sum = 0;
        for (int i = 0; i < dueUpwards.length; i++) {
            int rider = ridersDownwards[dueUpwards.length - 1 - i];
            Check.due(of + "rider " + rider, () -> x.charge(0, rider), dueUpwards[i]);
            sum += dueUpwards[i];
        }
        Check.due(of + "all", () -> x.finish(0), sum);
    }

    private static void roundedDown() {
        checkSplit(1, new int[] {9}, new int[] {1});
        checkSplit(7, new int[] {0}, new int[] {7});
        checkSplit(2, new int[] {9, 0}, new int[] {1, 1});
        checkSplit(1000, new int[] {9, 0}, new int[] {500, 500});
        checkSplit(3, new int[] {8, 4, 1}, new int[] {1, 1, 1});
        checkSplit(999, new int[] {9, 4, 0}, new int[] {333, 333, 333});
        checkSplit(4, new int[] {9, 8, 7, 6}, new int[] {1, 1, 1, 1});
        checkSplit(1000, new int[] {3, 2, 1, 0}, new int[] {250, 250, 250, 250});
        checkSplit(999, new int[] {1, 0}, new int[] {500, 499});
        checkSplit(1000, new int[] {9, 5, 0}, new int[] {334, 333, 333});
        checkSplit(999, new int[] {9, 8, 5, 0}, new int[] {250, 250, 250, 249});
    }

    private static void centByCent() {
        checkSplit(1, new int[] {9, 0}, new int[] {1, 0});
        checkSplit(3, new int[] {6, 5}, new int[] {2, 1});
        checkSplit(1, new int[] {8, 4, 1}, new int[] {1, 0, 0});
        checkSplit(2, new int[] {8, 4, 1}, new int[] {1, 1, 0});
        checkSplit(4, new int[] {8, 4, 1}, new int[] {2, 1, 1});
        checkSplit(5, new int[] {9, 5, 0}, new int[] {2, 2, 1});
        checkSplit(1, new int[] {9, 6, 3, 0}, new int[] {1, 0, 0, 0});
        checkSplit(2, new int[] {9, 6, 3, 0}, new int[] {1, 1, 0, 0});
        checkSplit(3, new int[] {9, 6, 3, 0}, new int[] {1, 1, 1, 0});
        checkSplit(5, new int[] {9, 8, 7, 6}, new int[] {2, 1, 1, 1});
        checkSplit(6, new int[] {9, 8, 7, 6}, new int[] {2, 2, 1, 1});
        checkSplit(7, new int[] {9, 8, 7, 6}, new int[] {2, 2, 2, 1});
        checkSplit(1001, new int[] {3, 2, 1, 0}, new int[] {251, 250, 250, 250});
    }

    private static void nobodyAboard() {
        Wheelpay x = Given.oneRide();
        Check.due("nobody has a seat", () -> x.drive(0, 100, 120), 0);
        x.book(0, 0);
        Check.due("a seat is booked", () -> x.drive(0, 100, 120), 0);
        x.board(0, 0);
        x.leave(0, 0);
        Check.due("the rider has left", () -> x.drive(0, 100, 120), 0);
        x.start(1);
        x.board(1, 0);
        Check.due("the rider is aboard in another ride", () -> x.drive(0, 100, 120), 0);
        Check.due("nobody is charged", () -> x.finish(0), 0);
        Check.due("nor in the other ride", () -> x.charge(1, 0), 0);
    }

    private static void minutesOfAll() {
        Wheelpay x = Given.oneRide();
        x.drive(0, 0, 1);
        Check.due("under way", () -> x.topUp(0, 0), 0);
        x.book(0, 0);
        x.drive(0, 100, 2);
        x.board(0, 9);
        x.setRates(0, 0);
        x.drive(0, 100, 4);
        x.leave(0, 9);
        x.drive(0, 100, 120);
        x.cancel(0, 0);
        x.finish(0);
        Check.due("1, 2, 4 and 120 minutes", () -> x.topUp(0, 0), 25 * 127 - 200);
        Given.emptyRides(x, 1, 1);
        Check.due("without a stretch", () -> x.topUp(1, 0), 0);
    }

    private static void cancelFee() {
        Wheelpay x = Given.oneRide();
        x.book(0, 0);
        x.start(1);
        x.drive(1, 1, 1);
        Check.due("no stretch but of another ride", () -> x.cancel(0, 0), 0);
        Check.due("not charged", () -> x.charge(0, 0), 0);
        x.book(0, 0);
        x.board(0, 1);
        x.leave(0, 1);
        Check.due("riders, but no stretch", () -> x.cancel(0, 0), 0);
        x.book(0, 0);
        x.drive(0, 0, 1);
        Check.due("the shortest stretch, nobody aboard", () -> x.cancel(0, 0), 250);
        x.book(0, 9);
        Check.due("a stretch before the booking", () -> x.cancel(0, 9), 250);
        x.book(0, 9);
        Check.due("for each cancel", () -> x.cancel(0, 9), 250);
        Check.due("charged", () -> x.charge(0, 9), 500);
        Check.due("nobody else is charged", () -> x.finish(0), 750);
    }

    private static void absenceFee() {
        Check.due("nobody has booked", () -> taken(4, 4).finish(0), 0);
        Wheelpay x = taken(0, 4);
        Check.due("four have booked", () -> x.finish(0), 1600);
        Check.due("the first", () -> x.charge(0, 0), 400);
        Check.due("the last", () -> x.charge(0, 3), 400);
        Check.due("another", () -> x.charge(0, 4), 0);
        Check.due("one has booked, three are aboard", () -> taken(3, 4).finish(0), 400);
        Wheelpay y = Given.oneRide();
        y.book(0, 0);
        y.board(0, 0);
        y.book(0, 1);
        y.cancel(0, 1);
        y.book(0, 2);
        y.board(0, 2);
        y.leave(0, 2);
        Check.due("boarded, cancelled and left", () -> y.finish(0), 0);
        Wheelpay z = Given.oneRide();
        z.board(0, 9);
        z.drive(0, 1, 1);
        z.leave(0, 9);
        z.book(0, 9);
        Check.due("booked again after leaving", () -> z.finish(0), 120 + 400);
    }

    private static void leaveAtTheEnd() {
        for (int i = 0; i <= 4; i++) {
            Wheelpay x = taken(i, 4);
            Check.due("aboard before, " + i, () -> x.aboard(0), (1 << i) - 1);
            x.finish(0);
            Check.due("aboard after, " + i, () -> x.aboard(0), 0);
            Check.refused("leave after, " + i, () -> x.leave(0, 0), Given.STATE);
        }
        Wheelpay y = Given.oneRide();
        y.board(0, 0);
        y.start(1);
        y.board(1, 0);
        y.finish(0);
        Check.due("aboard in another ride", () -> y.aboard(1), 1);
    }

    // ---- disputes and pay

    private static void disputedOnce() {
        Wheelpay x = Given.oneFinished();
        Check.due("once", () -> x.dispute(0, 0), 600);
        Check.refused("twice", () -> x.dispute(0, 0), Given.STATE);
        Check.due("another rider", () -> x.dispute(0, 9), 600);
        x.settle(0, 0, 0, false);
        Check.refused("settled with nothing", () -> x.dispute(0, 0), Given.STATE);
        x.settle(0, 9, 100, true);
        Check.refused("settled with all", () -> x.dispute(0, 9), Given.STATE);
        x.closeWeek();
        Check.refused("in the next week", () -> x.dispute(0, 0), Given.STATE);
        Given.finished(x, 0, 1, 1, 0);
        Check.due("the next ride", () -> x.dispute(1, 0), 120);
    }

    private static void percentage() {
        int[][] due = {
            {1, 0, 0}, {1, 1, 0}, {1, 50, 0}, {1, 99, 0}, {1, 100, 1}, {2, 49, 0}, {2, 50, 1}, {2, 99, 1},
            {3, 33, 0}, {3, 34, 1}, {3, 66, 1}, {3, 67, 2}, {99, 1, 0}, {100, 1, 1}, {101, 1, 1}, {199, 1, 1},
            {200, 1, 2}, {101, 99, 99}, {199, 99, 197}, {1000, 0, 0}, {1000, 100, 1000}};
        for (int[] row : due) {
            Wheelpay x = new Wheelpay();
            Given.charged(x, 0, row[0], 4);
            String of = row[1] + " percent of " + row[0];
            Check.due(of, () -> Given.settled(x, 0, 4, row[1], row[0] % 2 == 0), row[2]);
            Check.due(of + ", spent", () -> x.spent(4), row[0] - row[2]);
        }
    }

    /** A finished ride of rider 0 that was charged for stretches of 220000 cents. */
    private static Wheelpay manyStretches(int count) {
        Wheelpay x = Given.oneRide();
        x.setRates(1000, 1000);
        x.board(0, 0);
        for (int i = 0; i < count; i++) {
            x.drive(0, 100, 120);
        }
        x.finish(0);
        return x;
    }

    private static void percentageOfLarge() {
        int[][] due = {
            {97, 100, 21340000}, {98, 99, 21344400}, {98, 100, 21560000}, {196, 50, 21560000},
            {200, 100, 44000000}, {490, 1, 1078000}, {490, 33, 35574000}, {490, 100, 107800000}};
        for (int[] row : due) {
            Wheelpay x = manyStretches(row[0]);
            String of = row[1] + " percent of " + row[0] + " * 220000";
            Check.due(of, () -> Given.settled(x, 0, 0, row[1], true), row[2]);
            Check.due(of + ", void", () -> x.isVoid(0), row[1] == 100);
        }
    }

    private static void fifth() {
        int[][] due = {
            {1, 1}, {2, 2}, {3, 3}, {4, 4}, {5, 4}, {6, 5}, {9, 8}, {10, 8}, {11, 9}, {14, 12}, {15, 12},
            {1999, 1600}, {2000, 1600}};
        for (int[] row : due) {
            Wheelpay x = new Wheelpay();
            Given.charged(x, 0, row[0], 4);
            Check.due("of " + row[0], () -> x.earnings(0, 0), row[1]);
        }
        Wheelpay y = new Wheelpay();
        Given.charged(y, 0, 16, 0, 1, 2, 3);
        Check.due("of 4 and 4 and 4 and 4", () -> y.earnings(0, 0), 16);
        Wheelpay z = new Wheelpay();
        Given.charged(z, 0, 4, 0);
        Given.charged(z, 0, 4, 0);
        Check.due("of 4 and 4 of two rides", () -> z.earnings(0, 0), 8);
    }

    private static void lessTheRefund() {
        int[][] due = {
            {10, 0, 8}, {10, 1, 8}, {10, 10, 8}, {10, 50, 4}, {10, 59, 4}, {10, 60, 4}, {10, 99, 1},
            {10, 100, 0}, {9, 50, 4}, {11, 50, 5}, {1, 99, 1}, {1, 100, 0}};
        for (int[] row : due) {
            String of = row[1] + " percent of " + row[0];
            Wheelpay x = new Wheelpay();
            Given.charged(x, 0, row[0], 7);
            int before = x.earnings(0, 0);
            x.dispute(0, 7);
            Check.due(of + ", only disputed", () -> x.earnings(0, 0), before);
            x.settle(0, 7, row[1], true);
            Check.due(of + ", by the driver", () -> x.earnings(0, 0), row[2]);
            Wheelpay y = new Wheelpay();
            Given.charged(y, 0, row[0], 7);
            Given.settled(y, 0, 7, row[1], false);
            Check.due(of + ", not by the driver", () -> y.earnings(0, 0), before);
        }
    }

    private static void voidIfSomebodyWasCharged() {
        Wheelpay x = new Wheelpay();
        Given.emptyRides(x, 0, 1);
        Check.due("no riders, no stretch", () -> x.isVoid(0), false);
        Given.finished(x, 0, 10, 10);
        Check.due("no riders, a stretch", () -> x.isVoid(1), false);
        x.setRates(0, 0);
        Given.finished(x, 0, 10, 10, 0, 9);
        Check.due("riders, for nothing", () -> x.isVoid(2), false);
        x.start(0);
        x.book(3, 9);
        x.cancel(3, 9);
        x.finish(3);
        Check.due("cancelled for nothing", () -> x.isVoid(3), false);
        Check.due("they all count", () -> x.bonus(0, 0), 1000);
        Given.charged(x, 1, 1, 9);
        Check.due("one was charged 1", () -> x.isVoid(4), false);
        Given.settled(x, 4, 9, 100, true);
        Check.due("and refunded", () -> x.isVoid(4), true);
    }

    private static void voidIfEverybody() {
        Wheelpay x = new Wheelpay();
        Given.charged(x, 0, 1, 0, 5, 9);
        Given.settled(x, 0, 0, 100, true);
        Check.due("those who were charged 0 do not count", () -> x.isVoid(0), true);
        Given.charged(x, 0, 2, 0, 5, 9);
        Given.settled(x, 1, 0, 100, true);
        Check.due("the second is not refunded", () -> x.isVoid(1), false);
        Given.settled(x, 1, 5, 100, true);
        Check.due("the second is refunded", () -> x.isVoid(1), true);
        x.start(0);
        for (int rider = 6; rider < 10; rider++) {
            x.book(2, rider);
        }
        x.finish(2);
        for (int i = 6; i < 10; i++) {
            Check.due("all of four but " + (10 - i), () -> x.isVoid(2), false);
            Given.settled(x, 2, i, 100, true);
        }
        Check.due("all of four", () -> x.isVoid(2), true);
    }

    private static void voidIfRefundedAll() {
        int[] percentages = {0, 1, 50, 99, 100};
        for (int percentage : percentages) {
            Wheelpay x = Given.oneFinished();
            Given.settled(x, 0, 0, 100, true);
            Given.settled(x, 0, 3, 100, true);
            x.dispute(0, 9);
            Check.due("only disputed", () -> x.isVoid(0), false);
            x.settle(0, 9, percentage, true);
            Check.due(percentage + " percent", () -> x.isVoid(0), percentage == 100);
            Wheelpay y = Given.oneFinished();
            Given.settled(y, 0, 0, 100, true);
            Given.settled(y, 0, 3, 100, true);
            Given.settled(y, 0, 9, percentage, false);
            Check.due(percentage + " percent, not by the driver", () -> y.isVoid(0), false);
        }
        Wheelpay z = new Wheelpay();
        Given.charged(z, 0, 1, 0);
        Given.settled(z, 0, 0, 99, true);
        Check.due("nothing of 1", () -> z.isVoid(0), false);
    }

    private static void earnings() {
        Wheelpay x = new Wheelpay();
        Check.due("no ride", () -> x.earnings(0, 0), 0);
        Given.emptyRides(x, 0, 1);
        Check.due("a ride without riders", () -> x.earnings(0, 0), 0);
        Given.charged(x, 0, 10, 0, 9);
        Check.due("the lowest and the highest rider", () -> x.earnings(0, 0), 8);
        Given.driven(x, 0, 1, 1, 0);
        Check.due("not one under way", () -> x.earnings(0, 0), 8);
        x.finish(2);
        Check.due("all rides", () -> x.earnings(0, 0), 16);
        x.closeWeek();
        Given.charged(x, 0, 100, 0);
        Check.due("not one of another week", () -> x.earnings(0, 0), 16);
        Given.charged(x, 4, 100, 0);
        Check.due("not one of another driver", () -> x.earnings(0, 1), 80);
    }

    private static void floor() {
        Wheelpay x = new Wheelpay();
        Check.due("no ride", () -> x.topUp(0, 0), 0);
        Given.emptyRides(x, 0, 1);
        Check.due("no minutes", () -> x.topUp(0, 0), 0);
        Given.finished(x, 0, 0, 1);
        Check.due("1 minute", () -> x.topUp(0, 0), 25);
        Given.finished(x, 0, 0, 58);
        Check.due("59 minutes", () -> x.topUp(0, 0), 1475);
        Given.finished(x, 0, 0, 1);
        Check.due("60 minutes", () -> x.topUp(0, 0), 1500);
        Given.finished(x, 0, 0, 120, 7);
        Check.due("180 minutes, charged 2400", () -> x.topUp(0, 0), 4500 - 1920);
        Given.settled(x, 4, 7, 99, true);
        Check.due("180 minutes, charged 24", () -> x.topUp(0, 0), 4500 - 20);
        Given.finished(x, 0, 0, 120, 7);
        Given.settled(x, 5, 7, 100, true);
        Check.due("void minutes", () -> x.topUp(0, 0), 4500 - 20);
        Given.finished(x, 1, 0, 120, 7);
        Given.settled(x, 6, 7, 100, true);
        Check.due("void minutes alone", () -> x.topUp(1, 0), 0);
        x.closeWeek();
        Check.due("minutes of another week", () -> x.topUp(0, 1), 0);
        Given.driven(x, 0, 0, 120);
        Check.due("minutes under way", () -> x.topUp(0, 1), 0);
    }

    private static void lessEarnings() {
        int[][] due = {{0, 25}, {1, 24}, {29, 1}, {30, 1}, {31, 0}, {32, 0}, {33, 0}, {2000, 0}};
        for (int[] row : due) {
            Wheelpay x = new Wheelpay();
            Given.charged(x, 0, row[0], 0);
            Check.due("floor 25, charged " + row[0], () -> x.topUp(0, 0), row[1]);
            Check.due("pay, charged " + row[0], () -> x.pay(0, 0), x.earnings(0, 0) + row[1]);
        }
    }

    private static void bonus() {
        int[] due = {0, 0, 0, 1000, 1000, 1000, 3000, 3000, 3000, 6000, 6000, 6000, 6000};
        Wheelpay x = new Wheelpay();
        for (int i = 0; i < due.length; i++) {
            int rides = i;
            Check.due(rides + " rides", () -> x.bonus(0, 0), due[rides]);
            int ride = x.start(0);
            Check.due(rides + " rides and one under way", () -> x.bonus(0, 0), due[rides]);
            x.finish(ride);
        }
        Wheelpay y = new Wheelpay();
        Given.emptyRides(y, 0, 2);
        Given.emptyRides(y, 1, 2);
        y.closeWeek();
        Given.emptyRides(y, 0, 2);
        Check.due("2 and 2 of two weeks", () -> y.bonus(0, 0), 0);
        Check.due("2 of the second week", () -> y.bonus(0, 1), 0);
    }

    private static void bonusWithoutVoid() {
        int[][] due = {{3, 1000, 0}, {4, 1000, 1000}, {6, 3000, 1000}, {7, 3000, 3000}, {9, 6000, 3000},
            {10, 6000, 6000}};
        for (int[] row : due) {
            Wheelpay x = new Wheelpay();
            for (int i = 0; i < row[0]; i++) {
                Given.charged(x, 0, 100, i % 10);
            }
            Given.settled(x, 0, 0, 100, false);
            Given.settled(x, 1, 1, 99, true);
            Check.due(row[0] + " rides, none is void", () -> x.bonus(0, 0), row[1]);
            Given.settled(x, 2, 2, 100, true);
            Check.due(row[0] + " rides, one is void", () -> x.bonus(0, 0), row[2]);
        }
    }

    // ---- weeks and the house

    /** The balance of driver 0 is -800 in week 1, where no ride has been started. */
    private static Wheelpay indebted() {
        Wheelpay x = new Wheelpay();
        Given.charged(x, 0, 1000, 0);
        x.closeWeek();
        Given.settled(x, 0, 0, 100, true);
        return x;
    }

    private static void moreThanNothing() {
        int[][] due = {{998, 0, -1}, {999, 0, 0}, {1000, 0, 0}, {1001, 1, 0}, {1002, 2, 0}};
        for (int[] row : due) {
            Wheelpay x = indebted();
            Given.charged(x, 0, row[0], 0);
            String of = "debt 800, charged " + row[0];
            Check.due(of + ", closeWeek", x::closeWeek, row[1]);
            Check.due(of + ", paid", () -> x.paid(0), 800 + row[1]);
            Check.due(of + ", balance", () -> x.balance(0), row[2]);
        }
        Wheelpay y = indebted();
        Given.charged(y, 4, 100, 0);
        Check.due("one driver's debt is not taken from another", y::closeWeek, 80);
        Check.due("closing again pays nothing", y::closeWeek, 0);
        Check.due("the debt stays", () -> y.balance(0), -800);
    }

    private static void nextWeek() {
        Wheelpay x = new Wheelpay();
        Given.charged(x, 0, 100, 0);
        x.closeWeek();
        Check.due("week", x::week, 1);
        Check.due("the next week is empty", () -> x.pay(0, 1), 0);
        Given.charged(x, 0, 200, 0);
        Check.due("a ride of the next week", () -> x.pay(0, 1), 160);
        Check.due("the closed week stays", () -> x.pay(0, 0), 80);
        Check.due("the next week is not closed", () -> x.balance(0), 0);
        Check.due("closing it", x::closeWeek, 160);
        Check.due("week", x::week, 2);
    }

    private static void weekJustClosed() {
        Wheelpay x = new Wheelpay();
        for (int week = 0; week < 20; week++) {
            Given.finished(x, 2, 0, 1 + week);
            Check.due("balance before closing week " + week, () -> x.balance(2), 0);
            Check.due("closing week " + week, x::closeWeek, 25 * (1 + week));
            Check.due("balance after closing week " + week, () -> x.balance(2), 0);
        }
        Check.due("paid", () -> x.paid(2), 25 * 210);
    }

    private static void belowNothing() {
        Wheelpay x = new Wheelpay();
        Given.charged(x, 0, 1000, 0);
        Given.charged(x, 0, 5, 9);
        Given.charged(x, 1, 1000, 0);
        x.closeWeek();
        x.dispute(0, 0);
        Check.due("only disputed", () -> x.balance(0), 0);
        x.settle(0, 0, 100, true);
        Check.due("earnings of 4, a top-up of 21", () -> x.balance(0), 25 - 804);
        Given.settled(x, 1, 9, 100, true);
        Check.due("all is void", () -> x.balance(0), -804);
        Given.settled(x, 2, 0, 100, false);
        Check.due("not the driver's fault", () -> x.balance(1), 0);
        Check.due("paid stays", () -> x.paid(0), 804);
    }

    private static void house() {
        Check.due("no ride", () -> new Wheelpay().house(), 0);
        int[][] due = {{0, 200, 200}, {1, 190, 198}, {20, 0, 160}, {21, -10, 158}, {99, -790, -15}, {100, -800, 0}};
        for (int[] row : due) {
            Wheelpay x = new Wheelpay();
            Given.charged(x, 0, 1000, 0);
            Check.due("charged 1000", x::house, 200);
            Given.settled(x, 0, 0, row[0], false);
            Check.due(row[0] + " percent of 1000", x::house, row[1]);
            Wheelpay y = new Wheelpay();
            Given.charged(y, 0, 1000, 0);
            Given.settled(y, 0, 0, row[0], true);
            Check.due(row[0] + " percent of 1000, by the driver", y::house, row[2]);
        }
        Wheelpay z = new Wheelpay();
        Given.charged(z, 0, 4, 0);
        Check.due("a fifth of 4, a top-up of 21", z::house, -21);
        Given.driven(z, 1, 1, 1, 0);
        Check.due("not a ride under way", z::house, -21);
    }

    private static void houseOfAllWeeks() {
        Wheelpay x = new Wheelpay();
        for (int week = 0; week <= 20; week++) {
            Given.finished(x, week % 5, 0, 1);
            Check.due("week " + week, x::house, -25 * (1 + week));
            if (week < 20) {
                x.closeWeek();
                Check.due("week " + week + " closed", x::house, -25 * (1 + week));
            }
        }
    }

    private static void checkMoney(String when, Wheelpay x) {
        int got = x.house();
        for (int driver = 0; driver < 5; driver++) {
            for (int week = 0; week <= x.week(); week++) {
                got += x.pay(driver, week);
            }
        }
        int spent = 0;
        for (int rider = 0; rider < 10; rider++) {
            spent += x.spent(rider);
        }
        Check.compare(when + ", spent", "" + spent, "" + got);
    }

    private static void nothingIsLost() {
        Wheelpay x = Given.manyThings();
        checkMoney("rides under way", x);
        x.finish(2);
        x.finish(3);
        checkMoney("rides finished", x);
        Check.compare("something was spent", "" + (x.spent(6) > 0 && x.spent(8) > 0), "true");
        Given.settled(x, 2, 4, 33, true);
        checkMoney("a refund by the driver", x);
        Given.settled(x, 2, 5, 67, false);
        checkMoney("a refund by the house", x);
        x.closeWeek();
        checkMoney("a closed week", x);
        Given.settled(x, 2, 7, 100, true);
        checkMoney("a refund of a closed week", x);
        checkMoney("nothing", new Wheelpay());
    }

    // ---- exceptions

    private static void checkKinds(List<RefusedCall> calls) {
        for (RefusedCall each : calls) {
            Wheelpay x = Given.manyThings();
            Check.refused(each.what, () -> each.call.apply(x), each.kind);
        }
    }

    private static void doesNotExist() {
        checkKinds(RefusedCall.doesNotExist());
    }

    private static void outOfRange() {
        checkKinds(RefusedCall.outOfRange());
    }

    private static void notPossible() {
        checkKinds(RefusedCall.notPossible());
    }

    private static void indexFirst() {
        checkKinds(RefusedCall.indexFirst());
    }

    private static void argumentSecond() {
        checkKinds(RefusedCall.argumentSecond());
    }

    private static void changesNothing() {
        for (RefusedCall each : RefusedCall.everyOne()) {
            Refusal.due(each.what, Given::manyThings, each.call, each.kind);
        }
    }
}
