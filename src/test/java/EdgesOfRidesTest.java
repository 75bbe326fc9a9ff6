/** The sentences of the promises 1 to 12 that name a boundary case, a test for each. */
public final class EdgesOfRidesTest {
    private EdgesOfRidesTest() {
    }

    public static void main(String[] args) {
        Check.sentence("1: without rides", EdgesOfRidesTest::newWithoutRides);
        Check.sentence("1: in week 0", EdgesOfRidesTest::newInWeek0);
        Check.sentence("1: with the rates 100 and 20", EdgesOfRidesTest::newRates);
        Check.sentence("2: for stretches from now on", EdgesOfRidesTest::ratesFromNowOn);
        Check.sentence("2: byKilometre: 0 to 1000", EdgesOfRidesTest::byKilometre);
        Check.sentence("2: byMinute: 0 to 1000", EdgesOfRidesTest::byMinute);
        Check.sentence("2: throws if byKilometre is out of range", EdgesOfRidesTest::byKilometreOut);
        Check.sentence("2: throws if byMinute is out of range", EdgesOfRidesTest::byMinuteOut);
        Check.sentence("3: driver: 0 to 4; number of the ride", EdgesOfRidesTest::startNumbers);
        Check.sentence("3: throws if there is no such driver", EdgesOfRidesTest::startNoDriver);
        Check.sentence("3: throws if a ride of the driver is under way", EdgesOfRidesTest::startUnderWay);
        Check.sentence("3: throws if there have been 40 rides", EdgesOfRidesTest::startForty);
        seats();
        stretches();
        questions();
        Check.end();
    }

    private static void seats() {
        Check.sentence("4: returns how many seats are free then", EdgesOfRidesTest::bookFree);
        Check.sentence("4: throws if there is no such ride", EdgesOfRidesTest::bookNoRide);
        Check.sentence("4: throws if there is no such rider", EdgesOfRidesTest::bookNoRider);
        Check.sentence("4: throws if the ride is not under way", EdgesOfRidesTest::bookFinished);
        Check.sentence("4: throws if no seat is free", EdgesOfRidesTest::bookFull);
        Check.sentence("4: throws if the rider has booked one", EdgesOfRidesTest::bookBooked);
        Check.sentence("4: throws if the rider is aboard", EdgesOfRidesTest::bookAboard);
        Check.sentence("5: returns what is charged for it", EdgesOfRidesTest::cancelCharged);
        Check.sentence("5: throws if there is no such ride", EdgesOfRidesTest::cancelNoRide);
        Check.sentence("5: throws if there is no such rider", EdgesOfRidesTest::cancelNoRider);
        Check.sentence("5: throws if the ride is not under way", EdgesOfRidesTest::cancelFinished);
        Check.sentence("5: throws if the rider has no booked seat", EdgesOfRidesTest::cancelNotBooked);
        Check.sentence("6: with the booked seat if there is one", EdgesOfRidesTest::boardBooked);
        Check.sentence("6: returns how many riders are aboard then", EdgesOfRidesTest::boardCount);
        Check.sentence("6: throws if there is no such ride", EdgesOfRidesTest::boardNoRide);
        Check.sentence("6: throws if there is no such rider", EdgesOfRidesTest::boardNoRider);
        Check.sentence("6: throws if the ride is not under way", EdgesOfRidesTest::boardFinished);
        Check.sentence("6: throws if the rider is aboard", EdgesOfRidesTest::boardAboard);
        Check.sentence("6: throws if no booked seat and none is free", EdgesOfRidesTest::boardFull);
        Check.sentence("7: returns what the rider has been charged so far", EdgesOfRidesTest::leaveCharged);
        Check.sentence("7: throws if there is no such ride", EdgesOfRidesTest::leaveNoRide);
        Check.sentence("7: throws if there is no such rider", EdgesOfRidesTest::leaveNoRider);
        Check.sentence("7: throws if the ride is not under way", EdgesOfRidesTest::leaveFinished);
        Check.sentence("7: throws if the rider is not aboard", EdgesOfRidesTest::leaveNotAboard);
    }

    private static void stretches() {
        Check.sentence("8: kilometres: 0 to 100", EdgesOfRidesTest::kilometres);
        Check.sentence("8: minutes: 1 to 120", EdgesOfRidesTest::minutes);
        Check.sentence("8: returns what it costs", EdgesOfRidesTest::driveCost);
        Check.sentence("8: throws if there is no such ride", EdgesOfRidesTest::driveNoRide);
        Check.sentence("8: throws if kilometres is out of range", EdgesOfRidesTest::kilometresOut);
        Check.sentence("8: throws if minutes is out of range", EdgesOfRidesTest::minutesOut);
        Check.sentence("8: throws if the ride is not under way", EdgesOfRidesTest::driveFinished);
        Check.sentence("9: returns what all were charged, together", EdgesOfRidesTest::finishSum);
        Check.sentence("9: throws if there is no such ride", EdgesOfRidesTest::finishNoRide);
        Check.sentence("9: throws if the ride is not under way", EdgesOfRidesTest::finishFinished);
    }

    private static void questions() {
        Check.sentence("10: a set: bit r for rider r", EdgesOfRidesTest::aboardBits);
        Check.sentence("10: throws if there is no such ride", EdgesOfRidesTest::aboardNoRide);
        Check.sentence("11: fees included", EdgesOfRidesTest::chargeWithFees);
        Check.sentence("11: refunds not taken off", EdgesOfRidesTest::chargeWithRefunds);
        Check.sentence("11: throws if there is no such ride", EdgesOfRidesTest::chargeNoRide);
        Check.sentence("11: throws if there is no such rider", EdgesOfRidesTest::chargeNoRider);
        Check.sentence("12: true if it is void", EdgesOfRidesTest::voidTrue);
        Check.sentence("12: false for one that is under way", EdgesOfRidesTest::voidUnderWay);
        Check.sentence("12: throws if there is no such ride", EdgesOfRidesTest::voidNoRide);
    }

    // ---- 1

    private static void newWithoutRides() {
        Calls.ofRide().forEach((name, call) -> Refusal.due(name + " of ride 0", Wheelpay::new,
            x -> call.apply(x, 0), Given.OUT));
        Wheelpay x = new Wheelpay();
        Check.due("house", x::house, 0);
        Check.due("openDisputes", x::openDisputes, 0);
        for (int i = 0; i < 5; i++) {
            int driver = i;
            Check.due("pay of driver " + driver, () -> x.pay(driver, 0), 0);
            Check.due("balance of driver " + driver, () -> x.balance(driver), 0);
            Check.due("paid to driver " + driver, () -> x.paid(driver), 0);
        }
        for (int i = 0; i < 10; i++) {
            int rider = i;
            Check.due("spent by rider " + rider, () -> x.spent(rider), 0);
            Check.refused("averageCharge of rider " + rider, () -> x.averageCharge(rider), Given.STATE);
        }
        Check.due("the first ride", () -> x.start(0), 0);
    }

    private static void newInWeek0() {
        Check.due("week", () -> new Wheelpay().week(), 0);
        Refusal.due("earnings in week 1", Wheelpay::new, x -> x.earnings(0, 1), Given.ARGUMENT);
    }

    private static void newRates() {
        Wheelpay x = Given.oneRide();
        x.board(0, 0);
        Check.due("a minute", () -> x.drive(0, 0, 1), 20);
        Check.due("a kilometre and a minute", () -> x.drive(0, 1, 1), 120);
        Check.due("the longest", () -> x.drive(0, 100, 120), 12400);
    }

    // ---- 2

    private static void ratesFromNowOn() {
        Wheelpay x = Given.oneRide();
        x.board(0, 0);
        x.drive(0, 1, 1);
        x.setRates(0, 0);
        Check.due("the stretch before", () -> x.charge(0, 0), 120);
        Check.due("the first stretch after, of the same ride", () -> x.drive(0, 1, 1), 0);
        x.setRates(5, 7);
        x.finish(0);
        Check.due("a finished ride", () -> x.charge(0, 0), 120);
        x.closeWeek();
        x.start(1);
        x.board(1, 0);
        Check.due("a later ride of a later week", () -> x.drive(1, 2, 3), 31);
    }

    /** What a kilometre and a minute cost by the rates. */
    private static int costBy(int byKilometre, int byMinute) {
        Wheelpay x = Given.oneRide();
        x.board(0, 0);
        x.setRates(byKilometre, byMinute);
        return x.drive(0, 1, 1);
    }

    private static void byKilometre() {
        for (int rate : new int[] {0, 1, 999, 1000}) {
            Check.due(rate + " by kilometre", () -> costBy(rate, 0), rate);
        }
        Check.due("1000 by kilometre, 1000 by minute", () -> costBy(1000, 1000), 2000);
    }

    private static void byMinute() {
        for (int rate : new int[] {0, 1, 999, 1000}) {
            Check.due(rate + " by minute", () -> costBy(0, rate), rate);
        }
        Check.due("0 by kilometre, 0 by minute", () -> costBy(0, 0), 0);
    }

    private static int[] noRates() {
        return new int[] {-1, -2, 1001, 1002, 65536, Given.LOW, Given.LOW + 1, Given.HIGH};
    }

    private static void byKilometreOut() {
        for (int wrong : noRates()) {
            for (int other : new int[] {0, 30, 1000}) {
                Refusal.due("setRates(" + wrong + ", " + other + ")", Given::manyThings,
                    x -> Calls.setRates(x, wrong, other), Given.ARGUMENT);
            }
        }
    }

    private static void byMinuteOut() {
        for (int wrong : noRates()) {
            for (int other : new int[] {0, 70, 1000, -1}) {
                Refusal.due("setRates(" + other + ", " + wrong + ")", Given::manyThings,
                    x -> Calls.setRates(x, other, wrong), Given.ARGUMENT);
            }
        }
    }

    // ---- 3

    private static void startNumbers() {
        Wheelpay x = new Wheelpay();
        for (int i = 0; i < 5; i++) {
            int driver = 4 - i;
            Check.due("driver " + driver, () -> x.start(driver), i);
        }
        x.finish(3);
        Check.due("numbers are not used again", () -> x.start(1), 5);
        x.finish(5);
        Given.emptyRides(x, 1, 33);
        Check.due("the last", () -> x.start(1), 39);
    }

    private static void startNoDriver() {
        Refusal.noSuchDriver("start", Wheelpay::new, Wheelpay::start);
        Refusal.noSuchDriver("start, 40 rides", Given::fortyRides, Wheelpay::start);
    }

    private static void startUnderWay() {
        for (int i = 0; i < 5; i++) {
            int driver = i;
            Refusal.due("start(" + driver + ")", () -> started(driver), x -> x.start(driver), Given.STATE);
            Wheelpay x = started(driver);
            Check.due("start of another driver", () -> x.start((driver + 1) % 5), 1);
            Check.refused("start, where it is not the newest", () -> x.start(driver), Given.STATE);
            x.finish(0);
            Check.due("start, where it is finished", () -> x.start(driver), 2);
            Check.refused("start, where the second is under way", () -> x.start(driver), Given.STATE);
        }
    }

    private static Wheelpay started(int driver) {
        Wheelpay x = new Wheelpay();
        x.start(driver);
        return x;
    }

    private static void startForty() {
        Wheelpay x = new Wheelpay();
        Given.emptyRides(x, 0, 39);
        Check.due("39 rides", () -> x.start(0), 39);
        for (int i = 0; i < 5; i++) {
            int driver = i;
            Refusal.due("40 rides, start(" + driver + ")", Given::fortyRides, y -> y.start(driver), Given.STATE);
        }
        x.finish(39);
        Check.refused("40 finished rides", () -> x.start(0), Given.STATE);
        x.closeWeek();
        Check.refused("40 rides of closed weeks", () -> x.start(0), Given.STATE);
        Check.refused("no ride 40 came of it", () -> x.aboard(40), Given.OUT);
    }

    // ---- 4

    /** Ride 0 is full: riders 0 and 1 have booked, 2 and 3 are aboard; it has had a stretch. */
    private static Wheelpay full() {
        Wheelpay x = Given.oneRide();
        x.book(0, 0);
        x.book(0, 1);
        x.board(0, 2);
        x.board(0, 3);
        x.drive(0, 5, 5);
        return x;
    }

    private static void bookFree() {
        Wheelpay x = Given.oneRide();
        for (int i = 0; i < 4; i++) {
            int rider = 9 - 3 * i;
            Check.due("free after " + (i + 1), () -> x.book(0, rider), 3 - i);
        }
        Wheelpay y = Given.oneRide();
        y.board(0, 0);
        y.board(0, 1);
        y.board(0, 2);
        Check.due("free after 3 have boarded", () -> y.book(0, 3), 0);
    }

    private static void bookNoRide() {
        Refusal.noSuchRide("book", (x, ride) -> x.book(ride, 0));
    }

    private static void bookNoRider() {
        Refusal.noSuchRider("book", Given::oneRide, (x, rider) -> x.book(0, rider));
        Refusal.noSuchRider("book, full", EdgesOfRidesTest::full, (x, rider) -> x.book(0, rider));
    }

    private static void bookFinished() {
        Refusal.due("rider who was aboard", Given::oneFinished, x -> x.book(0, 0), Given.STATE);
        Refusal.due("rider who had booked", Given::oneFinished, x -> x.book(0, 3), Given.STATE);
        Refusal.due("rider who was not there", Given::oneFinished, x -> x.book(0, 5), Given.STATE);
    }

    private static void bookFull() {
        Refusal.due("full", EdgesOfRidesTest::full, x -> x.book(0, 9), Given.STATE);
        Wheelpay x = full();
        x.leave(0, 2);
        Check.due("one has left", () -> x.book(0, 9), 0);
        Check.refused("full again", () -> x.book(0, 2), Given.STATE);
    }

    private static void bookBooked() {
        Refusal.due("2 free", () -> booked(9), x -> x.book(0, 9), Given.STATE);
        Refusal.due("full", EdgesOfRidesTest::full, x -> x.book(0, 0), Given.STATE);
        Wheelpay x = booked(9);
        x.cancel(0, 9);
        Check.due("cancelled", () -> x.book(0, 9), 3);
        x.start(1);
        Check.due("booked in another ride", () -> x.book(1, 9), 3);
    }

    private static Wheelpay booked(int rider) {
        Wheelpay x = Given.oneRide();
        x.book(0, rider);
        return x;
    }

    private static void bookAboard() {
        Refusal.due("3 free", () -> boarded(9), x -> x.book(0, 9), Given.STATE);
        Refusal.due("full", EdgesOfRidesTest::full, x -> x.book(0, 3), Given.STATE);
        Wheelpay x = booked(0);
        x.board(0, 0);
        Check.refused("aboard with a booked seat", () -> x.book(0, 0), Given.STATE);
        x.leave(0, 0);
        Check.due("left", () -> x.book(0, 0), 3);
    }

    private static Wheelpay boarded(int rider) {
        Wheelpay x = Given.oneRide();
        x.board(0, rider);
        return x;
    }

    // ---- 5

    private static void cancelCharged() {
        Wheelpay x = booked(0);
        Check.due("no stretch", () -> x.cancel(0, 0), 0);
        x.book(0, 0);
        x.drive(0, 0, 1);
        Check.due("a stretch", () -> x.cancel(0, 0), 250);
        x.setRates(0, 0);
        x.book(0, 0);
        Check.due("whatever the rates", () -> x.cancel(0, 0), 250);
        Check.due("in the charge", () -> x.charge(0, 0), 500);
    }

    private static void cancelNoRide() {
        Refusal.noSuchRide("cancel", (x, ride) -> x.cancel(ride, 0));
    }

    private static void cancelNoRider() {
        Refusal.noSuchRider("cancel", Given::oneRide, (x, rider) -> x.cancel(0, rider));
        Refusal.noSuchRider("cancel, full", EdgesOfRidesTest::full, (x, rider) -> x.cancel(0, rider));
    }

    private static void cancelFinished() {
        Refusal.due("the booked seat", Given::oneFinished, x -> x.cancel(0, 3), Given.STATE);
        Check.due("400 stay the charge", () -> Given.oneFinished().charge(0, 3), 400);
    }

    private static void cancelNotBooked() {
        Refusal.due("nobody", Given::oneRide, x -> x.cancel(0, 0), Given.STATE);
        Refusal.due("another has booked", () -> booked(1), x -> x.cancel(0, 0), Given.STATE);
        Refusal.due("aboard", EdgesOfRidesTest::full, x -> x.cancel(0, 2), Given.STATE);
        Refusal.due("of another ride", () -> {
            Wheelpay x = booked(0);
            x.start(1);
            return x;
        }, x -> x.cancel(1, 0), Given.STATE);
        Wheelpay x = full();
        x.board(0, 0);
        Check.refused("aboard with the booked seat", () -> x.cancel(0, 0), Given.STATE);
        x.leave(0, 0);
        Check.refused("left after that", () -> x.cancel(0, 0), Given.STATE);
        x.cancel(0, 1);
        Check.refused("cancelled", () -> x.cancel(0, 1), Given.STATE);
    }

    // ---- 6

    private static void boardBooked() {
        Wheelpay x = full();
        Check.due("full, the first", () -> x.board(0, 0), 3);
        Check.due("full, the last", () -> x.board(0, 1), 4);
        Check.due("nobody has booked any more", () -> x.finish(0), 600);
        Wheelpay y = booked(0);
        y.board(0, 0);
        Check.due("the booked seat is used up", () -> y.book(0, 1), 2);
    }

    private static void boardCount() {
        Wheelpay x = Given.oneRide();
        for (int i = 0; i < 4; i++) {
            int rider = 9 - 3 * i;
            Check.due("aboard after " + (i + 1), () -> x.board(0, rider), i + 1);
        }
        x.leave(0, 9);
        Check.due("again", () -> x.board(0, 9), 4);
        Check.due("a booked seat is not aboard", () -> booked(5).board(0, 6), 1);
    }

    private static void boardNoRide() {
        Refusal.noSuchRide("board", (x, ride) -> x.board(ride, 0));
    }

    private static void boardNoRider() {
        Refusal.noSuchRider("board", Given::oneRide, (x, rider) -> x.board(0, rider));
        Refusal.noSuchRider("board, full", EdgesOfRidesTest::full, (x, rider) -> x.board(0, rider));
    }

    private static void boardFinished() {
        Refusal.due("rider who was aboard", Given::oneFinished, x -> x.board(0, 0), Given.STATE);
        Refusal.due("rider who had booked", Given::oneFinished, x -> x.board(0, 3), Given.STATE);
        Refusal.due("rider who was not there", Given::oneFinished, x -> x.board(0, 5), Given.STATE);
    }

    private static void boardAboard() {
        Refusal.due("3 free", () -> boarded(0), x -> x.board(0, 0), Given.STATE);
        Refusal.due("full", EdgesOfRidesTest::full, x -> x.board(0, 3), Given.STATE);
        Wheelpay x = boarded(9);
        x.start(1);
        Check.due("aboard in another ride", () -> x.board(1, 9), 1);
    }

    private static void boardFull() {
        Refusal.due("2 booked, 2 aboard", EdgesOfRidesTest::full, x -> x.board(0, 9), Given.STATE);
        Wheelpay x = full();
        x.cancel(0, 1);
        Check.due("one has cancelled", () -> x.board(0, 9), 3);
        Check.refused("the one who has cancelled", () -> x.board(0, 1), Given.STATE);
        x.leave(0, 9);
        Check.due("one has left", () -> x.board(0, 1), 3);
    }

    // ---- 7

    private static void leaveCharged() {
        Check.due("before a stretch", () -> boarded(0).leave(0, 0), 0);
        Wheelpay x = full();
        Check.due("half of 600", () -> x.leave(0, 2), 300);
        x.drive(0, 1, 1);
        x.book(0, 2);
        x.cancel(0, 2);
        x.board(0, 2);
        Check.due("a fee too, no later stretch", () -> x.leave(0, 2), 550);
        Check.due("all of it", () -> x.leave(0, 3), 420);
        x.finish(0);
        x.start(0);
        x.board(1, 3);
        Check.due("not of another ride", () -> x.leave(1, 3), 0);
    }

    private static void leaveNoRide() {
        Refusal.noSuchRide("leave", (x, ride) -> x.leave(ride, 0));
    }

    private static void leaveNoRider() {
        Refusal.noSuchRider("leave", Given::oneRide, (x, rider) -> x.leave(0, rider));
        Refusal.noSuchRider("leave, full", EdgesOfRidesTest::full, (x, rider) -> x.leave(0, rider));
    }

    private static void leaveFinished() {
        Refusal.due("rider who was aboard", Given::oneFinished, x -> x.leave(0, 0), Given.STATE);
        Refusal.due("the last rider", Given::oneFinished, x -> x.leave(0, 9), Given.STATE);
    }

    private static void leaveNotAboard() {
        Refusal.due("nobody", Given::oneRide, x -> x.leave(0, 0), Given.STATE);
        Refusal.due("booked", EdgesOfRidesTest::full, x -> x.leave(0, 1), Given.STATE);
        Refusal.due("others are aboard", EdgesOfRidesTest::full, x -> x.leave(0, 9), Given.STATE);
        Wheelpay x = boarded(0);
        x.leave(0, 0);
        Check.refused("left", () -> x.leave(0, 0), Given.STATE);
        x.start(1);
        x.board(1, 0);
        Check.refused("aboard in another ride", () -> x.leave(0, 0), Given.STATE);
    }

    // ---- 8

    private static void kilometres() {
        for (int kilometres : new int[] {0, 1, 99, 100}) {
            Check.due(kilometres + " kilometres", () -> boarded(0).drive(0, kilometres, 1), 100 * kilometres + 20);
        }
    }

    private static void minutes() {
        for (int minutes : new int[] {1, 2, 119, 120}) {
            Wheelpay x = boarded(0);
            Check.due(minutes + " minutes", () -> x.drive(0, 0, minutes), 20 * minutes);
            Wheelpay y = Given.oneRide();
            y.drive(0, 0, minutes);
            y.finish(0);
            Check.due(minutes + " minutes count", () -> y.topUp(0, 0), 25 * minutes);
        }
    }

    private static void driveCost() {
        Check.due("nobody aboard", () -> booked(0).drive(0, 100, 120), 0);
        Check.due("one aboard", () -> boarded(9).drive(0, 1, 1), 120);
        Wheelpay x = full();
        x.setRates(0, 1);
        Check.due("not the share of each", () -> x.drive(0, 0, 5), 5);
        x.setRates(0, 0);
        Check.due("for nothing", () -> x.drive(0, 100, 120), 0);
        x.setRates(1000, 1000);
        Check.due("the dearest", () -> x.drive(0, 100, 120), 220000);
    }

    private static void driveNoRide() {
        Refusal.noSuchRide("drive", (x, ride) -> x.drive(ride, 1, 1));
        Refusal.noSuchRide("drive with -1 kilometres", (x, ride) -> x.drive(ride, -1, 1));
        Refusal.noSuchRide("drive with 121 minutes", (x, ride) -> x.drive(ride, 1, 121));
    }

    private static void kilometresOut() {
        for (int wrong : new int[] {-1, -2, 101, 102, 65536, Given.LOW, Given.LOW + 1, Given.HIGH}) {
            Refusal.due(wrong + " kilometres", EdgesOfRidesTest::full, x -> x.drive(0, wrong, 1), Given.ARGUMENT);
            Refusal.due(wrong + " kilometres, nobody aboard", Given::oneRide, x -> x.drive(0, wrong, 1),
                Given.ARGUMENT);
            Refusal.due(wrong + " kilometres, finished", Given::oneFinished, x -> x.drive(0, wrong, 1),
                Given.ARGUMENT);
        }
    }

    private static void minutesOut() {
        for (int wrong : new int[] {0, -1, 121, 122, 65536, Given.LOW, Given.LOW + 1, Given.HIGH}) {
            Refusal.due(wrong + " minutes", EdgesOfRidesTest::full, x -> x.drive(0, 1, wrong), Given.ARGUMENT);
            Refusal.due(wrong + " minutes, nobody aboard", Given::oneRide, x -> x.drive(0, 0, wrong),
                Given.ARGUMENT);
            Refusal.due(wrong + " minutes, finished", Given::oneFinished, x -> x.drive(0, 1, wrong),
                Given.ARGUMENT);
        }
    }

    private static void driveFinished() {
        Refusal.due("finished", Given::oneFinished, x -> x.drive(0, 1, 1), Given.STATE);
        Wheelpay x = new Wheelpay();
        Given.emptyRides(x, 0, 1);
        x.start(0);
        Check.refused("finished, the next is under way", () -> x.drive(0, 1, 1), Given.STATE);
        Check.due("the next", () -> x.drive(1, 1, 1), 0);
    }

    // ---- 9

    private static void finishSum() {
        Check.due("no riders, no stretch", () -> Given.oneRide().finish(0), 0);
        Check.due("riders, no stretch", () -> boarded(0).finish(0), 0);
        Check.due("a booked seat, no stretch", () -> booked(9).finish(0), 400);
        Check.due("2 absent, a stretch of 600", () -> full().finish(0), 1400);
        Wheelpay x = full();
        x.cancel(0, 1);
        x.leave(0, 2);
        Check.due("1 absent, 1 cancelled, 1 left", () -> x.finish(0), 600 + 400 + 250);
    }

    private static void finishNoRide() {
        Refusal.noSuchRide("finish", Wheelpay::finish);
    }

    private static void finishFinished() {
        Refusal.due("with charges", Given::oneFinished, x -> x.finish(0), Given.STATE);
        Refusal.due("without charges", () -> {
            Wheelpay x = new Wheelpay();
            Given.emptyRides(x, 0, 1);
            return x;
        }, x -> x.finish(0), Given.STATE);
        Refusal.due("of a closed week", Given::allWeeksClosed, x -> x.finish(0), Given.STATE);
    }

    // ---- 10

    private static void aboardBits() {
        Check.due("nobody", () -> Given.oneRide().aboard(0), 0);
        Check.due("only booked", () -> booked(0).aboard(0), 0);
        for (int i = 0; i < 10; i++) {
            int rider = i;
            Check.due("rider " + rider, () -> boarded(rider).aboard(0), 1 << rider);
        }
        Wheelpay x = Given.oneRide();
        for (int rider : new int[] {9, 0, 8, 1}) {
            x.board(0, rider);
        }
        Check.due("0, 1, 8 and 9", () -> x.aboard(0), 0x303);
        x.leave(0, 9);
        Check.due("0, 1 and 8", () -> x.aboard(0), 0x103);
        x.finish(0);
        Check.due("finished", () -> x.aboard(0), 0);
    }

    private static void aboardNoRide() {
        Refusal.noSuchRide("aboard", Wheelpay::aboard);
    }

    // ---- 11

    private static void chargeWithFees() {
        Wheelpay x = full();
        Check.due("only booked", () -> x.charge(0, 0), 0);
        Check.due("aboard", () -> x.charge(0, 3), 300);
        Check.due("neither", () -> x.charge(0, 9), 0);
        x.cancel(0, 0);
        Check.due("cancelled", () -> x.charge(0, 0), 250);
        x.leave(0, 3);
        x.book(0, 3);
        x.finish(0);
        Check.due("absent", () -> x.charge(0, 1), 400);
        Check.due("aboard once, then absent", () -> x.charge(0, 3), 700);
    }

    private static void chargeWithRefunds() {
        for (int percentage : new int[] {0, 1, 100}) {
            Wheelpay x = Given.oneFinished();
            Given.settled(x, 0, 0, percentage, true);
            Given.settled(x, 0, 9, percentage, false);
            Check.due(percentage + " percent, by the driver", () -> x.charge(0, 0), 600);
            Check.due(percentage + " percent, not by the driver", () -> x.charge(0, 9), 600);
        }
    }

    private static void chargeNoRide() {
        Refusal.noSuchRide("charge", (x, ride) -> x.charge(ride, 0));
    }

    private static void chargeNoRider() {
        Refusal.noSuchRider("charge", Given::oneRide, (x, rider) -> x.charge(0, rider));
        Refusal.noSuchRider("charge, finished", Given::oneFinished, (x, rider) -> x.charge(0, rider));
    }

    // ---- 12

    private static void voidTrue() {
        Wheelpay x = Given.oneFinished();
        Check.due("nobody is refunded", () -> x.isVoid(0), false);
        Given.settled(x, 0, 0, 100, true);
        Given.settled(x, 0, 3, 100, true);
        Check.due("all but the last", () -> x.isVoid(0), false);
        Given.settled(x, 0, 9, 100, true);
        Check.due("all", () -> x.isVoid(0), true);
        x.closeWeek();
        Check.due("all, in the next week", () -> x.isVoid(0), true);
    }

    private static void voidUnderWay() {
        Check.due("without riders", () -> Given.oneRide().isVoid(0), false);
        Check.due("without charges", () -> boarded(0).isVoid(0), false);
        Check.due("with charges", () -> full().isVoid(0), false);
        Wheelpay x = Given.oneFinished();
        Given.settled(x, 0, 0, 100, true);
        Given.settled(x, 0, 3, 100, true);
        Given.settled(x, 0, 9, 100, true);
        x.start(0);
        Check.due("after a void one", () -> x.isVoid(1), false);
        Check.due("the void one", () -> x.isVoid(0), true);
    }

    private static void voidNoRide() {
        Refusal.noSuchRide("isVoid", Wheelpay::isVoid);
    }
}
