/** Each promise of the document: ordinary inputs, the edges that it names, and wrong inputs. */
public final class PromisesTest {
    private static final Class<IndexOutOfBoundsException> OUT = Given.OUT;
    private static final Class<IllegalArgumentException> ARGUMENT = Given.ARGUMENT;
    private static final Class<IllegalStateException> STATE = Given.STATE;

    private static final int LOW = Given.LOW;
    private static final int HIGH = Given.HIGH;

    private PromisesTest() {
    }

    public static void main(String[] args) {
        promise1NewObject();
        promise2SetRates();
        promise3Start();
        promise4Book();
        promise5Cancel();
        promise6Board();
        promise7Leave();
        promise8Drive();
        promise8Split();
        promise9Finish();
        promise10Aboard();
        promise11Charge();
        promise12IsVoid();
        promise13Dispute();
        promise14Settle();
        promise15OpenDisputes();
        promise16CloseWeek();
        promise16UnderWay();
        promise17Week();
        promise18Earnings();
        promise19TopUp();
        promise20Bonus();
        promise21Pay();
        promise22Balance();
        promise23Paid();
        promise24Spent();
        promise25House();
        promise26AverageCharge();
        largestCharge();
        objectsAreApart();
        Check.end();
    }

    private static String rates(int byKilometre, int byMinute) {
        return "setRates(" + byKilometre + ", " + byMinute + ")";
    }

    // ---- rides

    private static void promise1NewObject() {
        Wheelpay x = new Wheelpay();
        Check.refused("1: no ride 0", () -> x.aboard(0), OUT);
        Check.due("1: week", x::week, 0);
        Check.due("1: openDisputes", x::openDisputes, 0);
        Check.due("1: house", x::house, 0);
        for (int driver = 0; driver < 5; driver++) {
            int d = driver;
            Check.due("1: pay", () -> x.pay(d, 0), 0);
            Check.due("1: balance", () -> x.balance(d), 0);
            Check.due("1: paid", () -> x.paid(d), 0);
        }
        for (int rider = 0; rider < 10; rider++) {
            int r = rider;
            Check.due("1: spent", () -> x.spent(r), 0);
        }
        x.start(0);
        x.board(0, 0);
        Check.due("1: rate by kilometre", () -> x.drive(0, 1, 1), 120);
        Check.due("1: rate by minute", () -> x.drive(0, 0, 1), 20);
    }

    private static void promise2SetRates() {
        Wheelpay x = new Wheelpay();
        Given.driven(x, 0, 10, 10, 3);
        Check.due("2: before", () -> x.charge(0, 3), 1200);
        x.setRates(7, 3);
        Check.due("2: earlier stretches stay", () -> x.charge(0, 3), 1200);
        Check.due("2: later stretch", () -> x.drive(0, 10, 5), 85);
        for (int wrong : new int[] {-1, 1001, LOW, HIGH}) {
            Check.refused("2: " + rates(wrong, 0), () -> Calls.setRates(x, wrong, 0), ARGUMENT);
            Check.refused("2: " + rates(0, wrong), () -> Calls.setRates(x, 0, wrong), ARGUMENT);
        }
        Check.due("2: refused calls change nothing", () -> x.drive(0, 10, 5), 85);
        Check.due("2: " + rates(0, 0), () -> Calls.setRates(x, 0, 0), "set");
        Check.due("2: for nothing", () -> x.drive(0, 100, 120), 0);
        Check.due("2: " + rates(1000, 1000), () -> Calls.setRates(x, 1000, 1000), "set");
        Check.due("2: dearest", () -> x.drive(0, 100, 120), 220000);
    }

    private static void promise3Start() {
        Wheelpay x = new Wheelpay();
        for (int wrong : Given.noDrivers()) {
            Check.refused("3: start(" + wrong + ")", () -> x.start(wrong), OUT);
        }
        Check.due("3: start(4)", () -> x.start(4), 0);
        Check.refused("3: under way", () -> x.start(4), STATE);
        Check.due("3: start(0)", () -> x.start(0), 1);
        x.finish(0);
        Check.due("3: after finish", () -> x.start(4), 2);
        Check.refused("3: the other still is under way", () -> x.start(0), STATE);
        x.finish(1);
        x.finish(2);
        Given.emptyRides(x, 1, 36);
        Check.due("3: ride 39", () -> x.start(2), 39);
        Check.refused("3: 40 rides, driver free", () -> x.start(3), STATE);
        Check.refused("3: 40 rides, no such driver", () -> x.start(5), OUT);
        x.finish(39);
        Check.refused("3: finished rides count", () -> x.start(2), STATE);
        Check.refused("3: ride 40", () -> x.aboard(40), OUT);
    }

    private static void promise4Book() {
        Wheelpay x = new Wheelpay();
        Check.refused("4: no ride yet", () -> x.book(0, 0), OUT);
        x.start(0);
        for (int wrong : Given.noRides()) {
            Check.refused("4: book(" + wrong + ", 0)", () -> x.book(wrong, 0), OUT);
        }
        for (int wrong : Given.noRiders()) {
            Check.refused("4: book(0, " + wrong + ")", () -> x.book(0, wrong), OUT);
        }
        Check.due("4: book(0, 0)", () -> x.book(0, 0), 3);
        Check.refused("4: booked already", () -> x.book(0, 0), STATE);
        x.board(0, 1);
        Check.refused("4: aboard", () -> x.book(0, 1), STATE);
        Check.due("4: one booked, one aboard", () -> x.book(0, 9), 1);
        Check.due("4: last seat", () -> x.book(0, 5), 0);
        Check.refused("4: none is free", () -> x.book(0, 6), STATE);
        x.leave(0, 1);
        Check.due("4: again after leaving", () -> x.book(0, 1), 0);
        x.cancel(0, 0);
        Check.due("4: again after cancelling", () -> x.book(0, 0), 0);
        x.finish(0);
        Check.refused("4: finished", () -> x.book(0, 7), STATE);
        Check.refused("4: finished, no such rider", () -> x.book(0, 10), OUT);
    }

    private static void promise5Cancel() {
        Wheelpay x = new Wheelpay();
        x.start(0);
        for (int wrong : Given.noRides()) {
            Check.refused("5: cancel(" + wrong + ", 0)", () -> x.cancel(wrong, 0), OUT);
        }
        for (int wrong : Given.noRiders()) {
            Check.refused("5: cancel(0, " + wrong + ")", () -> x.cancel(0, wrong), OUT);
        }
        Check.refused("5: not booked", () -> x.cancel(0, 2), STATE);
        x.book(0, 2);
        x.book(0, 3);
        x.book(0, 4);
        Check.due("5: before a stretch", () -> x.cancel(0, 2), 0);
        Check.due("5: not charged", () -> x.charge(0, 2), 0);
        Check.refused("5: cancelled", () -> x.cancel(0, 2), STATE);
        Check.due("5: the seat is free", () -> x.book(0, 5), 1);
        x.board(0, 4);
        Check.refused("5: aboard with the booked seat", () -> x.cancel(0, 4), STATE);
        x.leave(0, 4);
        x.drive(0, 0, 1);
        Check.due("5: after an empty stretch", () -> x.cancel(0, 3), 250);
        Check.due("5: charged", () -> x.charge(0, 3), 250);
        x.book(0, 3);
        Check.due("5: each time", () -> x.cancel(0, 3), 250);
        Check.due("5: charged twice", () -> x.charge(0, 3), 500);
        x.finish(0);
        Check.refused("5: finished", () -> x.cancel(0, 5), STATE);
        x.start(0);
        x.book(1, 5);
        Check.due("5: stretches of another ride", () -> x.cancel(1, 5), 0);
    }

    private static void promise6Board() {
        Wheelpay x = new Wheelpay();
        x.start(0);
        for (int wrong : Given.noRides()) {
            Check.refused("6: board(" + wrong + ", 0)", () -> x.board(wrong, 0), OUT);
        }
        for (int wrong : Given.noRiders()) {
            Check.refused("6: board(0, " + wrong + ")", () -> x.board(0, wrong), OUT);
        }
        Check.due("6: board(0, 0)", () -> x.board(0, 0), 1);
        Check.refused("6: aboard", () -> x.board(0, 0), STATE);
        x.book(0, 1);
        x.book(0, 2);
        Check.due("6: the last free seat", () -> x.board(0, 9), 2);
        Check.refused("6: none is free", () -> x.board(0, 3), STATE);
        Check.due("6: with the booked seat", () -> x.board(0, 1), 3);
        Check.due("6: with the other one", () -> x.board(0, 2), 4);
        Check.refused("6: full", () -> x.board(0, 3), STATE);
        x.leave(0, 0);
        Check.due("6: again", () -> x.board(0, 0), 4);
        x.finish(0);
        Check.refused("6: finished", () -> x.board(0, 4), STATE);
        Check.due("6: nobody boarded", () -> x.aboard(0), 0);
        x.start(0);
        x.start(1);
        x.board(1, 7);
        Check.due("6: aboard in another ride", () -> x.board(2, 7), 1);
    }

    private static void promise7Leave() {
        Wheelpay x = new Wheelpay();
        x.start(0);
        for (int wrong : Given.noRides()) {
            Check.refused("7: leave(" + wrong + ", 0)", () -> x.leave(wrong, 0), OUT);
        }
        for (int wrong : Given.noRiders()) {
            Check.refused("7: leave(0, " + wrong + ")", () -> x.leave(0, wrong), OUT);
        }
        Check.refused("7: not aboard", () -> x.leave(0, 6), STATE);
        x.book(0, 6);
        Check.refused("7: booked alone", () -> x.leave(0, 6), STATE);
        x.board(0, 6);
        Check.due("7: before a stretch", () -> x.leave(0, 6), 0);
        Check.refused("7: left", () -> x.leave(0, 6), STATE);
        x.board(0, 6);
        x.drive(0, 2, 2);
        x.leave(0, 6);
        x.book(0, 6);
        x.cancel(0, 6);
        x.board(0, 6);
        x.drive(0, 1, 1);
        Check.due("7: all of the ride, fees too", () -> x.leave(0, 6), 240 + 250 + 120);
        x.drive(0, 5, 5);
        Check.due("7: not charged any more", () -> x.charge(0, 6), 610);
        x.board(0, 6);
        x.finish(0);
        Check.refused("7: finished", () -> x.leave(0, 6), STATE);
    }

    private static void promise8Drive() {
        Wheelpay x = new Wheelpay();
        x.start(0);
        for (int wrong : Given.noRides()) {
            Check.refused("8: drive(" + wrong + ", 1, 1)", () -> x.drive(wrong, 1, 1), OUT);
            Check.refused("8: ride goes first", () -> x.drive(wrong, -1, 0), OUT);
        }
        for (int wrong : new int[] {-1, 101, LOW, HIGH}) {
            Check.refused("8: drive(0, " + wrong + ", 1)", () -> x.drive(0, wrong, 1), ARGUMENT);
        }
        for (int wrong : new int[] {0, -1, 121, LOW, HIGH}) {
            Check.refused("8: drive(0, 1, " + wrong + ")", () -> x.drive(0, 1, wrong), ARGUMENT);
        }
        x.book(0, 0);
        Check.due("8: refused calls were no stretch", () -> x.cancel(0, 0), 0);
        Check.due("8: nobody aboard", () -> x.drive(0, 100, 120), 0);
        x.book(0, 1);
        Check.due("8: booked is not aboard", () -> x.drive(0, 3, 3), 0);
        Check.due("8: not charged", () -> x.charge(0, 1), 0);
        x.board(0, 1);
        Check.due("8: least", () -> x.drive(0, 0, 1), 20);
        Check.due("8: most", () -> x.drive(0, 100, 120), 12400);
        Check.due("8: charged", () -> x.charge(0, 1), 12420);
        x.finish(0);
        Check.refused("8: finished", () -> x.drive(0, 1, 1), STATE);
        Check.refused("8: finished, argument goes first", () -> x.drive(0, 101, 1), ARGUMENT);
        Wheelpay y = new Wheelpay();
        Given.driven(y, 0, 1, 7);
        y.board(0, 0);
        y.setRates(0, 0);
        Check.due("8: for nothing", () -> y.drive(0, 100, 120), 0);
        y.finish(0);
        Check.due("8: the minutes of all stretches", () -> y.topUp(0, 0), 25 * (7 + 120));
    }

    private static void promise8Split() {
        Wheelpay x = new Wheelpay();
        x.setRates(1, 1);
        x.start(0);
        for (int rider : new int[] {9, 2, 7, 4}) {
            x.board(0, rider);
        }
        Check.due("8: cost 7", () -> x.drive(0, 6, 1), 7);
        checkCharges(x, 0, 2, 2, 4, 2, 7, 2, 9, 1);
        Check.due("8: cost 5", () -> x.drive(0, 4, 1), 5);
        checkCharges(x, 0, 2, 4, 4, 3, 7, 3, 9, 2);
        Check.due("8: cost 6", () -> x.drive(0, 5, 1), 6);
        checkCharges(x, 0, 2, 6, 4, 5, 7, 4, 9, 3);
        Check.due("8: cost 8", () -> x.drive(0, 7, 1), 8);
        checkCharges(x, 0, 2, 8, 4, 7, 7, 6, 9, 5);
        x.leave(0, 2);
        Check.due("8: cost 11 by three", () -> x.drive(0, 10, 1), 11);
        checkCharges(x, 0, 2, 8, 4, 11, 7, 10, 9, 8);
        Check.due("8: cost 1 by three", () -> x.drive(0, 0, 1), 1);
        checkCharges(x, 0, 2, 8, 4, 12, 7, 10, 9, 8);
    }

    /** Pairs of a rider and the charge that is due. */
    private static void checkCharges(Wheelpay x, int ride, int... pairs) {
        for (int i = 0; i + 1 < pairs.length; i += 2) {
            int rider = pairs[i];
            Check.due("charge(" + ride + ", " + rider + ")", () -> x.charge(ride, rider), pairs[i + 1]);
        }
    }

    private static void promise9Finish() {
        Wheelpay x = new Wheelpay();
        x.start(0);
        for (int wrong : Given.noRides()) {
            Check.refused("9: finish(" + wrong + ")", () -> x.finish(wrong), OUT);
        }
        x.book(0, 0);
        x.book(0, 9);
        x.board(0, 5);
        x.drive(0, 1, 0 + 1);
        x.book(0, 4);
        x.cancel(0, 4);
        Check.due("9: all charges", () -> x.finish(0), 120 + 250 + 800);
        checkCharges(x, 0, 0, 400, 9, 400, 5, 120, 4, 250, 1, 0);
        Check.due("9: riders leave", () -> x.aboard(0), 0);
        Check.refused("9: finished", () -> x.finish(0), STATE);
        checkCharges(x, 0, 0, 400, 9, 400);
        x.start(0);
        Check.due("9: without riders", () -> x.finish(1), 0);
        x.start(0);
        x.book(2, 3);
        Check.due("9: a seat without a stretch", () -> x.finish(2), 400);
    }

    private static void promise10Aboard() {
        Wheelpay x = new Wheelpay();
        x.start(0);
        for (int wrong : Given.noRides()) {
            Check.refused("10: aboard(" + wrong + ")", () -> x.aboard(wrong), OUT);
        }
        Check.due("10: nobody", () -> x.aboard(0), 0);
        x.book(0, 1);
        Check.due("10: booked is not aboard", () -> x.aboard(0), 0);
        x.board(0, 0);
        x.board(0, 9);
        Check.due("10: 0 and 9", () -> x.aboard(0), 1 + 512);
        x.board(0, 1);
        Check.due("10: 1 too", () -> x.aboard(0), 1 + 2 + 512);
        x.leave(0, 0);
        Check.due("10: 0 left", () -> x.aboard(0), 2 + 512);
        x.start(1);
        Check.due("10: another ride", () -> x.aboard(1), 0);
        x.finish(0);
        Check.due("10: finished", () -> x.aboard(0), 0);
    }

    private static void promise11Charge() {
        Wheelpay x = new Wheelpay();
        x.start(0);
        for (int wrong : Given.noRides()) {
            Check.refused("11: charge(" + wrong + ", 0)", () -> x.charge(wrong, 0), OUT);
        }
        for (int wrong : Given.noRiders()) {
            Check.refused("11: charge(0, " + wrong + ")", () -> x.charge(0, wrong), OUT);
        }
        x.board(0, 0);
        x.drive(0, 2, 5);
        Check.due("11: under way", () -> x.charge(0, 0), 300);
        x.leave(0, 0);
        x.book(0, 0);
        x.finish(0);
        Check.due("11: fees included", () -> x.charge(0, 0), 700);
        Given.settled(x, 0, 0, 50, true);
        Check.due("11: refunds not taken off", () -> x.charge(0, 0), 700);
        Check.due("11: nobody else", () -> x.charge(0, 1), 0);
    }

    private static void promise12IsVoid() {
        Wheelpay x = new Wheelpay();
        Given.driven(x, 0, 10, 1, 0, 1);
        for (int wrong : Given.noRides()) {
            Check.refused("12: isVoid(" + wrong + ")", () -> x.isVoid(wrong), OUT);
        }
        Check.due("12: under way", () -> x.isVoid(0), false);
        x.finish(0);
        Check.due("12: finished", () -> x.isVoid(0), false);
        Given.settled(x, 0, 0, 100, true);
        Check.due("12: one of two refunded", () -> x.isVoid(0), false);
        x.dispute(0, 1);
        Check.due("12: the other only disputed", () -> x.isVoid(0), false);
        x.settle(0, 1, 100, true);
        Check.due("12: both refunded", () -> x.isVoid(0), true);
        Given.finished(x, 0, 10, 1, 0);
        Given.settled(x, 1, 0, 100, false);
        Check.due("12: not the driver's fault", () -> x.isVoid(1), false);
        Given.finished(x, 0, 10, 1, 0);
        Given.settled(x, 2, 0, 99, true);
        Check.due("12: not all", () -> x.isVoid(2), false);
        Given.emptyRides(x, 0, 1);
        Check.due("12: nobody was charged", () -> x.isVoid(3), false);
        Given.driven(x, 0, 10, 1, 8);
        x.book(4, 9);
        x.finish(4);
        Given.settled(x, 4, 8, 100, true);
        Check.due("12: a fee is a charge", () -> x.isVoid(4), false);
        Given.settled(x, 4, 9, 100, true);
        Check.due("12: the fee too", () -> x.isVoid(4), true);
        x.start(0);
        Check.due("12: nobody charged, under way", () -> x.isVoid(5), false);
    }

    // ---- disputes

    private static void promise13Dispute() {
        Wheelpay x = new Wheelpay();
        Given.driven(x, 0, 10, 1, 0, 9);
        for (int wrong : Given.noRides()) {
            Check.refused("13: dispute(" + wrong + ", 0)", () -> x.dispute(wrong, 0), OUT);
        }
        for (int wrong : Given.noRiders()) {
            Check.refused("13: dispute(0, " + wrong + ")", () -> x.dispute(0, wrong), OUT);
        }
        Check.refused("13: under way", () -> x.dispute(0, 0), STATE);
        x.finish(0);
        Check.refused("13: charge 0", () -> x.dispute(0, 1), STATE);
        Check.due("13: refused calls open none", x::openDisputes, 0);
        Check.due("13: dispute(0, 9)", () -> x.dispute(0, 9), 510);
        Check.refused("13: disputed", () -> x.dispute(0, 9), STATE);
        x.settle(0, 9, 30, false);
        Check.refused("13: settled", () -> x.dispute(0, 9), STATE);
        x.closeWeek();
        Check.due("13: of a closed week", () -> x.dispute(0, 0), 510);
        x.start(0);
        x.book(1, 2);
        x.finish(1);
        Check.due("13: a fee", () -> x.dispute(1, 2), 400);
    }

    private static void promise14Settle() {
        Wheelpay x = new Wheelpay();
        x.setRates(1, 1);
        Given.driven(x, 0, 98, 1, 0);
        for (int wrong : Given.noRides()) {
            Check.refused("14: settle(" + wrong + ", 0, 1, true)", () -> x.settle(wrong, 0, 1, true), OUT);
            Check.refused("14: ride goes first", () -> x.settle(wrong, 0, -1, true), OUT);
        }
        for (int wrong : Given.noRiders()) {
            Check.refused("14: settle(0, " + wrong + ", 1, true)", () -> x.settle(0, wrong, 1, true), OUT);
            Check.refused("14: rider goes first", () -> x.settle(0, wrong, 101, true), OUT);
        }
        for (int wrong : new int[] {-1, 101, LOW, HIGH}) {
            Check.refused("14: percentage goes before state", () -> x.settle(0, 0, wrong, true), ARGUMENT);
        }
        Check.refused("14: under way", () -> x.settle(0, 0, 1, true), STATE);
        x.finish(0);
        Check.refused("14: not disputed", () -> x.settle(0, 0, 1, true), STATE);
        x.dispute(0, 0);
        Check.refused("14: percentage 101", () -> x.settle(0, 0, 101, true), ARGUMENT);
        Check.due("14: refused calls settle nothing", x::openDisputes, 1);
        Check.due("14: rounded down", () -> x.settle(0, 0, 50, true), 49);
        Check.refused("14: settled", () -> x.settle(0, 0, 50, true), STATE);
        Check.refused("14: settled, percentage -1", () -> x.settle(0, 0, -1, true), ARGUMENT);
        int[][] due = {{0, 0}, {1, 0}, {2, 1}, {99, 98}, {100, 99}};
        for (int[] pair : due) {
            int ride = Given.finished(x, 0, 98, 1, 0);
            x.dispute(ride, 0);
            Check.due("14: of 99 at " + pair[0], () -> x.settle(ride, 0, pair[0], false), pair[1]);
            Check.refused("14: settled with " + pair[0], () -> x.settle(ride, 0, pair[0], false), STATE);
        }
    }

    private static void promise15OpenDisputes() {
        Wheelpay x = new Wheelpay();
        Given.finished(x, 0, 10, 1, 0, 1, 2);
        Given.finished(x, 1, 10, 1, 0);
        x.dispute(0, 0);
        x.dispute(0, 2);
        Check.due("15: two", x::openDisputes, 2);
        x.dispute(1, 0);
        Check.due("15: of two rides", x::openDisputes, 3);
        x.closeWeek();
        Check.due("15: over weeks", x::openDisputes, 3);
        x.settle(0, 0, 0, false);
        Check.due("15: settled with nothing", x::openDisputes, 2);
        x.settle(1, 0, 100, true);
        x.settle(0, 2, 7, true);
        Check.due("15: all settled", x::openDisputes, 0);
    }

    // ---- weeks and money

    private static void promise16CloseWeek() {
        Wheelpay x = new Wheelpay();
        Check.due("16: nothing to pay", x::closeWeek, 0);
        Given.finished(x, 0, 50, 1, 0);
        Given.driven(x, 4, 10, 60);
        Check.refused("16: under way", x::closeWeek, STATE);
        Check.due("16: refused call closes nothing", x::week, 1);
        Check.due("16: and pays nothing", () -> x.paid(0), 0);
        x.finish(1);
        Check.due("16: all drivers together", x::closeWeek, 4016 + 1500);
        Check.due("16: next week", x::week, 2);
        Given.settled(x, 0, 0, 100, true);
        Check.due("16: below 0 is not paid", x::closeWeek, 0);
        Check.due("16: stays below 0", () -> x.balance(0), -4016);
        Given.finished(x, 0, 60, 1, 0);
        Check.due("16: what exceeds the debt", x::closeWeek, 4816 - 4016);
        for (int i = 4; i < 20; i++) {
            x.closeWeek();
        }
        Check.due("16: 20 are closed", x::week, 20);
        Check.refused("16: no more", x::closeWeek, STATE);
        Check.due("16: week 20 stays", x::week, 20);
        Given.finished(x, 0, 50, 1, 0);
        Check.due("16: rides in week 20", () -> x.earnings(0, 20), 4016);
        Check.due("16: never closed", () -> x.balance(0), 0);
    }

    private static void promise16UnderWay() {
        Wheelpay x = new Wheelpay();
        x.start(0);
        Check.refused("16: ride 0 alone is under way", x::closeWeek, STATE);
        x.finish(0);
        Check.due("16: it is finished", x::closeWeek, 0);
        Given.emptyRides(x, 0, 3);
        x.start(1);
        Check.refused("16: the newest ride is under way", x::closeWeek, STATE);
        x.finish(4);
        Check.due("16: the bonus", x::closeWeek, 1000);
    }

    private static void promise17Week() {
        Wheelpay x = new Wheelpay();
        Check.due("17: at first", x::week, 0);
        x.closeWeek();
        Check.due("17: after one", x::week, 1);
        x.closeWeek();
        Check.due("17: after two", x::week, 2);
    }

    /** Wrong drivers and weeks of a purse in week 1. */
    private static void checkDriverAndWeek(String name, Wheelpay x) {
        for (int wrong : Given.noDrivers()) {
            Check.refused(name + "(" + wrong + ", 0)", () -> byWeek(name, x, wrong, 0), OUT);
            Check.refused(name + ": driver goes first", () -> byWeek(name, x, wrong, -1), OUT);
        }
        for (int wrong : new int[] {-1, 2, 20, 21, LOW, HIGH}) {
            Check.refused(name + "(0, " + wrong + ")", () -> byWeek(name, x, 0, wrong), ARGUMENT);
        }
        Check.due(name + "(4, 1)", () -> byWeek(name, x, 4, 1), 0);
    }

    private static int byWeek(String name, Wheelpay x, int driver, int week) {
        switch (name) {
            case "18: earnings":
                return x.earnings(driver, week);
            case "19: topUp":
                return x.topUp(driver, week);
            case "20: bonus":
                return x.bonus(driver, week);
            default:
                return x.pay(driver, week);
        }
    }

    private static void promise18Earnings() {
        Wheelpay x = new Wheelpay();
        x.setRates(1, 1);
        int ride = Given.driven(x, 0, 8, 1, 0);
        Check.due("18: under way", () -> x.earnings(0, 0), 0);
        x.finish(ride);
        Check.due("18: a fifth of 9 is 1", () -> x.earnings(0, 0), 8);
        Given.finished(x, 0, 12, 6, 0, 1);
        Check.due("18: the fifth for each rider", () -> x.earnings(0, 0), 8 + 8 + 8);
        Given.finished(x, 1, 98, 1, 0);
        Check.due("18: another driver", () -> x.earnings(1, 0), 80);
        Given.settled(x, 2, 0, 50, false);
        Check.due("18: not by the driver", () -> x.earnings(1, 0), 80);
        x.closeWeek();
        checkDriverAndWeek("18: earnings", x);
        Given.finished(x, 1, 98, 1, 0);
        Check.due("18: of this week", () -> x.earnings(1, 1), 80);
        Check.due("18: of that week", () -> x.earnings(1, 0), 80);
        Given.settled(x, 3, 0, 50, true);
        Check.due("18: 99 less 49 by the driver", () -> x.earnings(1, 1), 40);
        Given.settled(x, 0, 0, 100, true);
        Check.due("18: a closed week, as it is now", () -> x.earnings(0, 0), 16);
        x.start(0);
        x.book(4, 3);
        x.finish(4);
        Check.due("18: fees too", () -> x.earnings(0, 1), 320);
    }

    private static void promise19TopUp() {
        Wheelpay x = new Wheelpay();
        Given.driven(x, 0, 0, 1);
        Check.due("19: under way", () -> x.topUp(0, 0), 0);
        x.finish(0);
        Check.due("19: 25 by minute", () -> x.topUp(0, 0), 25);
        Given.finished(x, 0, 1, 59, 0);
        Check.due("19: less earnings of 1024", () -> x.topUp(0, 0), 1500 - 1024);
        Given.finished(x, 0, 10, 2, 0);
        Check.due("19: not below 0", () -> x.topUp(0, 0), 0);
        x.closeWeek();
        checkDriverAndWeek("19: topUp", x);
        Given.settled(x, 2, 0, 100, true);
        Check.due("19: without the void ride", () -> x.topUp(0, 0), 1500 - 1024);
        Given.settled(x, 1, 0, 99, true);
        Check.due("19: an almost void ride counts", () -> x.topUp(0, 0), 1500 - 11);
        Given.finished(x, 3, 0, 120, 5);
        Check.due("19: of this week", () -> x.topUp(3, 1), 3000 - 1920);
        Check.due("19: not of that week", () -> x.topUp(3, 0), 0);
        x.setRates(0, 25);
        Given.finished(x, 2, 0, 120, 5);
        Given.settled(x, 4, 5, 0, true);
        Check.due("19: settled with nothing", () -> x.topUp(2, 1), 600);
    }

    private static void promise20Bonus() {
        Wheelpay x = new Wheelpay();
        int[] due = {0, 0, 1000, 1000, 1000, 3000, 3000, 3000, 6000, 6000};
        for (int count = 1; count <= 10; count++) {
            int ride = Given.driven(x, 0, 1, 1, 0);
            int before = count == 1 ? 0 : due[count - 2];
            Check.due("20: under way", () -> x.bonus(0, 0), before);
            x.finish(ride);
            Check.due("20: rides " + count, () -> x.bonus(0, 0), due[count - 1]);
        }
        Check.due("20: another driver", () -> x.bonus(1, 0), 0);
        x.closeWeek();
        checkDriverAndWeek("20: bonus", x);
        Given.settled(x, 0, 0, 100, true);
        Check.due("20: a void ride of ten", () -> x.bonus(0, 0), 6000);
        Given.settled(x, 1, 0, 100, true);
        Check.due("20: two void rides of ten", () -> x.bonus(0, 0), 3000);
        Given.settled(x, 2, 0, 100, false);
        Given.settled(x, 3, 0, 99, true);
        Given.settled(x, 4, 0, 100, true);
        Given.settled(x, 5, 0, 100, true);
        Check.due("20: six count", () -> x.bonus(0, 0), 3000);
        Given.settled(x, 6, 0, 100, true);
        Check.due("20: five count", () -> x.bonus(0, 0), 1000);
        Given.settled(x, 7, 0, 100, true);
        Given.settled(x, 8, 0, 100, true);
        Check.due("20: three count", () -> x.bonus(0, 0), 1000);
        Given.settled(x, 9, 0, 100, true);
        Check.due("20: two count", () -> x.bonus(0, 0), 0);
        Given.emptyRides(x, 0, 3);
        Check.due("20: rides without riders", () -> x.bonus(0, 1), 1000);
    }

    private static void promise21Pay() {
        Wheelpay x = new Wheelpay();
        Given.finished(x, 0, 1, 100, 0);
        Given.emptyRides(x, 0, 2);
        Check.due("21: earnings", () -> x.earnings(0, 0), 1680);
        Check.due("21: top-up", () -> x.topUp(0, 0), 820);
        Check.due("21: together", () -> x.pay(0, 0), 1680 + 820 + 1000);
        Check.due("21: another driver", () -> x.pay(1, 0), 0);
        x.closeWeek();
        checkDriverAndWeek("21: pay", x);
        Given.settled(x, 0, 0, 100, true);
        Check.due("21: as it is now", () -> x.pay(0, 0), 0);
        Given.finished(x, 0, 10, 1, 0);
        Check.due("21: of this week", () -> x.pay(0, 1), 816);
    }

    private static void promise22Balance() {
        Wheelpay x = new Wheelpay();
        for (int wrong : Given.noDrivers()) {
            Check.refused("22: balance(" + wrong + ")", () -> x.balance(wrong), OUT);
        }
        Given.finished(x, 4, 10, 1, 0, 1);
        Check.due("22: not closed yet", () -> x.balance(4), 0);
        x.closeWeek();
        Check.due("22: paid", () -> x.balance(4), 0);
        Given.settled(x, 0, 0, 50, true);
        Check.due("22: a refund of 255 of 510", () -> x.balance(4), 408 + 204 - 816);
        Given.finished(x, 4, 10, 1, 0);
        Check.due("22: this week does not count", () -> x.balance(4), -204);
        x.closeWeek();
        Check.due("22: paid again", () -> x.balance(4), 0);
        Check.due("22: another driver", () -> x.balance(3), 0);
        Wheelpay y = new Wheelpay();
        Given.finished(y, 0, 10, 1, 0);
        y.closeWeek();
        Given.settled(y, 0, 0, 100, false);
        Check.due("22: not the driver's fault", () -> y.balance(0), 0);
    }

    private static void promise23Paid() {
        Wheelpay x = new Wheelpay();
        for (int wrong : Given.noDrivers()) {
            Check.refused("23: paid(" + wrong + ")", () -> x.paid(wrong), OUT);
        }
        Given.finished(x, 4, 10, 1, 0);
        Check.due("23: not closed yet", () -> x.paid(4), 0);
        x.closeWeek();
        Check.due("23: one week", () -> x.paid(4), 816);
        Given.finished(x, 4, 20, 1, 0);
        x.closeWeek();
        Check.due("23: two weeks", () -> x.paid(4), 816 + 1616);
        Given.settled(x, 0, 0, 100, true);
        x.closeWeek();
        Check.due("23: never taken back", () -> x.paid(4), 816 + 1616);
        Check.due("23: another driver", () -> x.paid(0), 0);
    }

    private static void promise24Spent() {
        Wheelpay x = new Wheelpay();
        for (int wrong : Given.noRiders()) {
            Check.refused("24: spent(" + wrong + ")", () -> x.spent(wrong), OUT);
        }
        Given.driven(x, 0, 10, 1, 9);
        Check.due("24: under way", () -> x.spent(9), 0);
        x.finish(0);
        Check.due("24: finished", () -> x.spent(9), 1020);
        x.closeWeek();
        Given.finished(x, 1, 5, 1, 9, 0);
        Check.due("24: all rides of all weeks", () -> x.spent(9), 1020 + 260);
        x.dispute(0, 9);
        Check.due("24: only disputed", () -> x.spent(9), 1280);
        x.settle(0, 9, 10, true);
        Given.settled(x, 1, 9, 50, false);
        Check.due("24: less refunds", () -> x.spent(9), 1280 - 102 - 130);
        Check.due("24: another rider", () -> x.spent(0), 260);
        Check.due("24: nobody", () -> x.spent(1), 0);
    }

    private static void promise25House() {
        Wheelpay x = new Wheelpay();
        Given.driven(x, 0, 10, 1, 0);
        Check.due("25: under way", x::house, 0);
        x.finish(0);
        Check.due("25: the present week too", x::house, 1020 - 816);
        x.closeWeek();
        Check.due("25: closing changes nothing", x::house, 204);
        x.dispute(0, 0);
        Check.due("25: only disputed", x::house, 204);
        x.settle(0, 0, 100, false);
        Check.due("25: a refund of the house", x::house, -816);
        Given.finished(x, 1, 10, 1, 0);
        Given.settled(x, 1, 0, 100, true);
        Check.due("25: a refund of the driver", x::house, -816);
        Given.emptyRides(x, 4, 3);
        Check.due("25: less the bonus", x::house, -1816);
        Given.finished(x, 2, 0, 10);
        Check.due("25: less the top-up", x::house, -2066);
        x.closeWeek();
        x.closeWeek();
        Check.due("25: all weeks", x::house, -2066);
    }

    private static void promise26AverageCharge() {
        Wheelpay x = new Wheelpay();
        for (int wrong : Given.noRiders()) {
            Check.refused("26: averageCharge(" + wrong + ")", () -> x.averageCharge(wrong), OUT);
        }
        Check.refused("26: no rides", () -> x.averageCharge(0), STATE);
        x.setRates(1, 1);
        Given.driven(x, 0, 0, 1, 0);
        Check.refused("26: under way", () -> x.averageCharge(0), STATE);
        x.finish(0);
        Check.due("26: one", () -> x.averageCharge(0), 1.0f);
        Check.refused("26: another rider", () -> x.averageCharge(1), STATE);
        Given.finished(x, 0, 3, 1, 0);
        Check.due("26: a half", () -> x.averageCharge(0), 2.5f);
        Given.finished(x, 0, 4, 1, 0);
        Check.due("26: thirds", () -> x.averageCharge(0), 10.0f / 3.0f);
        Given.finished(x, 0, 4, 1, 1);
        x.setRates(0, 0);
        Given.finished(x, 0, 4, 1, 0);
        Check.due("26: a ride for nothing does not count", () -> x.averageCharge(0), 10.0f / 3.0f);
        Given.settled(x, 0, 0, 100, true);
        Given.settled(x, 1, 0, 50, false);
        Check.due("26: refunds not taken off", () -> x.averageCharge(0), 10.0f / 3.0f);
        Given.finished(x, 0, 4, 1, 2);
        Check.refused("26: aboard for nothing", () -> x.averageCharge(2), STATE);
        // 16777217 is the least sum that a float does not hold.
        Wheelpay y = new Wheelpay();
        y.setRates(1000, 1000);
        Given.driven(y, 0, 100, 120, 0);
        for (int i = 1; i < 76; i++) {
            y.drive(0, 100, 120);
        }
        int whole = y.charge(0, 0);
        Check.compare("26: the sum so far", "" + whole, "16720000");
        fillUp(y, 16777217 - whole);
        y.finish(0);
        Check.due("26: the sum", () -> y.spent(0), 16777217);
        Check.due("26: the sum as a float", () -> y.averageCharge(0), 16777216.0f);
    }

    /** Charges rider 0 of ride 0 with the amount, which is under 101000. */
    private static void fillUp(Wheelpay x, int amount) {
        x.setRates(1000, 0);
        x.drive(0, amount / 1000, 1);
        x.setRates(amount % 1000, 0);
        x.drive(0, 1, 1);
    }

    // ---- terms that hold for every promise

    private static void largestCharge() {
        Wheelpay x = new Wheelpay();
        x.setRates(1000, 1000);
        x.start(0);
        x.board(0, 9);
        for (int i = 0; i < 480; i++) {
            x.drive(0, 100, 120);
        }
        int all = 480 * 220000;
        Check.due("a large charge", () -> x.finish(0), all);
        Check.due("what the driver gets", () -> x.pay(0, 0), all - all / 5);
        Check.due("a large dispute", () -> x.dispute(0, 9), all);
        Check.due("a large refund", () -> x.settle(0, 9, 99, true), 104544000);
        Check.due("a large average", () -> x.averageCharge(9), (float) all);
        Check.due("a large floor", () -> x.topUp(0, 0), 25 * 480 * 120 - (1056000 - 211200));
        Check.due("spent", () -> x.spent(9), 1056000);
        Check.due("paid by the floor", x::closeWeek, 1440000);
        Check.due("house", x::house, 1056000 - 1440000);
    }

    private static void objectsAreApart() {
        Wheelpay x = new Wheelpay();
        Wheelpay y = new Wheelpay();
        x.setRates(0, 0);
        Given.finished(x, 0, 1, 1, 0);
        x.closeWeek();
        Check.due("another object's week", y::week, 0);
        Check.due("another object's rides", () -> y.start(0), 0);
        y.board(0, 0);
        Check.due("another object's rates", () -> y.drive(0, 1, 1), 120);
    }
}
