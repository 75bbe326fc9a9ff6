/** The sentences of the promises 13 to 15 that name a boundary case, a test for each. */
public final class EdgesOfDisputesTest {
    private EdgesOfDisputesTest() {
    }

    public static void main(String[] args) {
        Check.sentence("13: returns the charge", EdgesOfDisputesTest::disputeCharge);
        Check.sentence("13: throws if there is no such ride", EdgesOfDisputesTest::disputeNoRide);
        Check.sentence("13: throws if there is no such rider", EdgesOfDisputesTest::disputeNoRider);
        Check.sentence("13: throws if the ride is under way", EdgesOfDisputesTest::disputeUnderWay);
        Check.sentence("13: throws if the charge is 0", EdgesOfDisputesTest::disputeNothing);
        Check.sentence("13: throws if it has been disputed", EdgesOfDisputesTest::disputeTwice);
        Check.sentence("14: percentage: 0 to 100; returns the refund", EdgesOfDisputesTest::percentages);
        Check.sentence("14: throws if there is no such ride", EdgesOfDisputesTest::settleNoRide);
        Check.sentence("14: throws if there is no such rider", EdgesOfDisputesTest::settleNoRider);
        Check.sentence("14: throws if percentage is out of range", EdgesOfDisputesTest::percentageOut);
        Check.sentence("14: throws if the charge has not been disputed", EdgesOfDisputesTest::settleUndisputed);
        Check.sentence("14: throws if the dispute is settled", EdgesOfDisputesTest::settleTwice);
        Check.sentence("15: the number of disputes that are not settled", EdgesOfDisputesTest::openDisputes);
        Check.sentence("15: none at all, and as many as can be", EdgesOfDisputesTest::openNoneAndAll);
        Check.end();
    }

    // ---- 13

    private static void disputeCharge() {
        Wheelpay x = new Wheelpay();
        Given.charged(x, 0, 1, 9);
        Check.due("the least charge", () -> x.dispute(0, 9), 1);
        x.start(0);
        x.book(1, 0);
        x.finish(1);
        x.closeWeek();
        Check.due("a fee, of a closed week", () -> x.dispute(1, 0), 400);
        Check.due("the charge stays", () -> x.charge(1, 0), 400);
        Check.due("nothing is refunded yet", () -> x.spent(0), 400);
        Given.charged(x, 4, 2000, 0);
        Check.due("a ride of the present week", () -> x.dispute(2, 0), 2000);
        Wheelpay y = Given.oneFinished();
        Check.due("400 of 1600", () -> y.dispute(0, 3), 400);
        Check.due("600 of 1600", () -> y.dispute(0, 9), 600);
    }

    private static void disputeNoRide() {
        Refusal.noSuchRide("dispute", (x, ride) -> x.dispute(ride, 0));
    }

    private static void disputeNoRider() {
        Refusal.noSuchRider("dispute", Given::oneFinished, (x, rider) -> x.dispute(0, rider));
        Refusal.noSuchRider("dispute, under way", Given::oneRide, (x, rider) -> x.dispute(0, rider));
    }

    private static Wheelpay chargedUnderWay() {
        Wheelpay x = new Wheelpay();
        Given.driven(x, 0, 1, 1, 0, 9);
        x.leave(0, 9);
        return x;
    }

    private static void disputeUnderWay() {
        Refusal.due("aboard", EdgesOfDisputesTest::chargedUnderWay, x -> x.dispute(0, 0), Given.STATE);
        Refusal.due("left", EdgesOfDisputesTest::chargedUnderWay, x -> x.dispute(0, 9), Given.STATE);
        Refusal.due("not charged", EdgesOfDisputesTest::chargedUnderWay, x -> x.dispute(0, 1), Given.STATE);
        Wheelpay x = chargedUnderWay();
        x.finish(0);
        Check.due("finished", () -> x.dispute(0, 0), 60);
        x.start(0);
        Check.due("finished, the next is under way", () -> x.dispute(0, 9), 60);
    }

    private static void disputeNothing() {
        Refusal.due("was not there", Given::oneFinished, x -> x.dispute(0, 5), Given.STATE);
        Refusal.due("aboard, but no stretch", EdgesOfDisputesTest::chargedNothing, x -> x.dispute(0, 0),
            Given.STATE);
        Refusal.due("cancelled before a stretch", EdgesOfDisputesTest::chargedNothing, x -> x.dispute(0, 1),
            Given.STATE);
        Wheelpay x = new Wheelpay();
        Given.charged(x, 0, 1, 0, 9);
        Check.refused("a share of 0", () -> x.dispute(0, 9), Given.STATE);
        Check.due("a share of 1", () -> x.dispute(0, 0), 1);
        Given.charged(x, 0, 0, 0);
        Check.refused("driven for nothing", () -> x.dispute(1, 0), Given.STATE);
    }

    private static Wheelpay chargedNothing() {
        Wheelpay x = Given.oneRide();
        x.board(0, 0);
        x.book(0, 1);
        x.cancel(0, 1);
        x.finish(0);
        return x;
    }

    private static Wheelpay disputed() {
        Wheelpay x = Given.oneFinished();
        x.dispute(0, 0);
        return x;
    }

    private static Wheelpay settledWith(int percentage, boolean isByDriver) {
        Wheelpay x = disputed();
        x.settle(0, 0, percentage, isByDriver);
        return x;
    }

    private static void disputeTwice() {
        Refusal.due("not settled", EdgesOfDisputesTest::disputed, x -> x.dispute(0, 0), Given.STATE);
        for (int percentage : new int[] {0, 50, 100}) {
            Refusal.due("settled with " + percentage + ", by the driver", () -> settledWith(percentage, true),
                x -> x.dispute(0, 0), Given.STATE);
            Refusal.due("settled with " + percentage + ", not by the driver",
                () -> settledWith(percentage, false), x -> x.dispute(0, 0), Given.STATE);
        }
        Check.due("another rider", () -> disputed().dispute(0, 9), 600);
    }

    // ---- 14

    private static void percentages() {
        int[][] due = {{0, 0}, {1, 6}, {2, 12}, {33, 198}, {99, 594}, {100, 600}};
        for (int[] row : due) {
            Check.due(row[0] + " percent, by the driver", () -> disputed().settle(0, 0, row[0], true), row[1]);
            Check.due(row[0] + " percent, not by the driver", () -> disputed().settle(0, 0, row[0], false), row[1]);
        }
        Wheelpay x = disputed();
        x.closeWeek();
        Check.due("of a closed week", () -> x.settle(0, 0, 100, true), 600);
    }

    private static void settleNoRide() {
        Refusal.noSuchRide("settle", (x, ride) -> x.settle(ride, 0, 50, true));
        Refusal.noSuchRide("settle with 101", (x, ride) -> x.settle(ride, 0, 101, true));
    }

    private static void settleNoRider() {
        Refusal.noSuchRider("settle", EdgesOfDisputesTest::disputed, (x, rider) -> x.settle(0, rider, 50, true));
        Refusal.noSuchRider("settle with -1", EdgesOfDisputesTest::disputed,
            (x, rider) -> x.settle(0, rider, -1, true));
    }

    private static void percentageOut() {
        for (int wrong : new int[] {-1, -2, 101, 102, 65636, Given.LOW, Given.LOW + 1, Given.HIGH}) {
            Refusal.due(wrong + " percent, disputed", EdgesOfDisputesTest::disputed,
                x -> x.settle(0, 0, wrong, true), Given.ARGUMENT);
            Refusal.due(wrong + " percent, settled", () -> settledWith(50, true),
                x -> x.settle(0, 0, wrong, false), Given.ARGUMENT);
            Refusal.due(wrong + " percent, not disputed", EdgesOfDisputesTest::disputed,
                x -> x.settle(0, 9, wrong, true), Given.ARGUMENT);
            Refusal.due(wrong + " percent, under way", Given::oneRide, x -> x.settle(0, 0, wrong, true),
                Given.ARGUMENT);
        }
    }

    private static void settleUndisputed() {
        Refusal.due("another has disputed", EdgesOfDisputesTest::disputed, x -> x.settle(0, 9, 50, true),
            Given.STATE);
        Refusal.due("nobody has disputed", Given::oneFinished, x -> x.settle(0, 0, 50, true), Given.STATE);
        Refusal.due("the charge is 0", EdgesOfDisputesTest::chargedNothing, x -> x.settle(0, 0, 50, true),
            Given.STATE);
        Refusal.due("under way", EdgesOfDisputesTest::chargedUnderWay, x -> x.settle(0, 0, 0, false), Given.STATE);
        Wheelpay x = disputed();
        Given.finished(x, 0, 1, 1, 0);
        Check.refused("disputed in another ride", () -> x.settle(1, 0, 50, true), Given.STATE);
    }

    private static void settleTwice() {
        for (int percentage : new int[] {0, 50, 100}) {
            Refusal.due("settled with " + percentage + ", by the driver", () -> settledWith(percentage, true),
                x -> x.settle(0, 0, 50, false), Given.STATE);
            Refusal.due("settled with " + percentage + ", not by the driver",
                () -> settledWith(percentage, false), x -> x.settle(0, 0, 60, true), Given.STATE);
        }
        Wheelpay x = settledWith(0, false);
        x.dispute(0, 9);
        Check.due("another rider's is open", () -> x.settle(0, 9, 100, true), 600);
    }

    // ---- 15

    private static void openDisputes() {
        Wheelpay x = disputed();
        Check.due("one", x::openDisputes, 1);
        x.dispute(0, 9);
        Check.due("two of a ride", x::openDisputes, 2);
        x.settle(0, 0, 0, false);
        Check.due("one settled with nothing", x::openDisputes, 1);
        x.closeWeek();
        Check.due("closing settles none", x::openDisputes, 1);
        Given.finished(x, 4, 1, 1, 0);
        x.dispute(1, 0);
        Check.due("one of each week", x::openDisputes, 2);
        x.settle(0, 9, 100, true);
        x.settle(1, 0, 1, true);
        Check.due("all settled", x::openDisputes, 0);
    }

    private static void openNoneAndAll() {
        Check.due("no rides", () -> new Wheelpay().openDisputes(), 0);
        Check.due("a ride under way", () -> Given.oneRide().openDisputes(), 0);
        Check.due("charges, no dispute", () -> Given.oneFinished().openDisputes(), 0);
        Wheelpay x = new Wheelpay();
        for (int ride = 0; ride < 40; ride++) {
            Given.finished(x, ride % 5, 1, 1, 0, 3, 6, 9);
            for (int rider = 0; rider < 10; rider += 3) {
                x.dispute(ride, rider);
            }
        }
        Check.due("4 of each of 40 rides", x::openDisputes, 160);
        Wheelpay y = Given.oneRide();
        for (int rider = 0; rider < 10; rider++) {
            y.board(0, rider);
            y.drive(0, 1, 1);
            y.leave(0, rider);
        }
        y.finish(0);
        for (int rider = 0; rider < 10; rider++) {
            y.dispute(0, rider);
        }
        Check.due("all riders of a ride", y::openDisputes, 10);
    }
}
