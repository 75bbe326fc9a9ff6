/** Purses and rides that tests start from, and the arguments that no purse takes. */
final class Given {
    static final Class<IndexOutOfBoundsException> OUT = IndexOutOfBoundsException.class;
    static final Class<IllegalArgumentException> ARGUMENT = IllegalArgumentException.class;
    static final Class<IllegalStateException> STATE = IllegalStateException.class;

    static final int LOW = Integer.MIN_VALUE;
    static final int HIGH = Integer.MAX_VALUE;

    private Given() {
    }

    // The numbers from 32 on are those that a shift of an int takes for a small one.

    static int[] noRiders() {
        return new int[] {-1, -2, 10, 11, 31, 32, 33, 41, 64, -32, LOW, LOW + 1, HIGH};
    }

    static int[] noDrivers() {
        return new int[] {-1, -2, 5, 6, 9, 32, 36, -32, LOW, LOW + 1, HIGH};
    }

    /** Rides that do not exist where exactly one ride was started. */
    static int[] noRides() {
        return new int[] {-1, -2, 1, 2, 39, 40, 41, LOW, LOW + 1, HIGH};
    }

    /** A ride of the driver with the riders aboard, driven once. */
    static int driven(Wheelpay x, int driver, int kilometres, int minutes, int... riders) {
        int ride = x.start(driver);
        for (int rider : riders) {
            x.board(ride, rider);
        }
        x.drive(ride, kilometres, minutes);
        return ride;
    }

    static int finished(Wheelpay x, int driver, int kilometres, int minutes, int... riders) {
        int ride = driven(x, driver, kilometres, minutes, riders);
        x.finish(ride);
        return ride;
    }

    /** A finished ride of one minute that costs 0 to 2000 cents; it leaves other rates behind. */
    static int charged(Wheelpay x, int driver, int cents, int... riders) {
        int byKilometre = Math.min(cents, 1000);
        x.setRates(byKilometre, cents - byKilometre);
        return finished(x, driver, 1, 1, riders);
    }

    static int settled(Wheelpay x, int ride, int rider, int percentage, boolean isByDriver) {
        x.dispute(ride, rider);
        return x.settle(ride, rider, percentage, isByDriver);
    }

    /** Finished rides without riders or minutes, which count for bonuses and bring nothing else. */
    static void emptyRides(Wheelpay x, int driver, int count) {
        for (int i = 0; i < count; i++) {
            x.finish(x.start(driver));
        }
    }

    static void closedWeeks(Wheelpay x, int count) {
        for (int i = 0; i < count; i++) {
            x.closeWeek();
        }
    }

    static Wheelpay allWeeksClosed() {
        Wheelpay x = oneFinished();
        closedWeeks(x, 20);
        return x;
    }

    /** Ride 0 of driver 0 is under way, without riders or stretches. */
    static Wheelpay oneRide() {
        Wheelpay x = new Wheelpay();
        x.start(0);
        return x;
    }

    /** Ride 0 of driver 0 is finished: rider 0 was charged 600, rider 9 too, and rider 3 400. */
    static Wheelpay oneFinished() {
        Wheelpay x = oneRide();
        x.board(0, 0);
        x.board(0, 9);
        x.book(0, 3);
        x.drive(0, 10, 10);
        x.finish(0);
        return x;
    }

    /** All of the 40 rides have been started; ride 39 of driver 2 alone is under way. */
    static Wheelpay fortyRides() {
        Wheelpay x = new Wheelpay();
        emptyRides(x, 1, 39);
        x.start(2);
        return x;
    }

    /**
     * Week 1 of a purse with rates of its own. Ride 0 of week 0: riders 0, 1 and 2 were charged, the
     * charge of rider 0 is disputed, the one of rider 1 is settled, and rider 3 did not board. Ride 1
     * is finished. Ride 2 of driver 0 is full and has had a stretch: riders 4 and 5 have booked, 6 and
     * 7 are aboard, 8 has cancelled. Ride 3 of driver 2 is under way without riders or stretches.
     */
    static Wheelpay manyThings() {
        Wheelpay x = new Wheelpay();
        x.setRates(70, 30);
        x.start(0);
        x.book(0, 3);
        for (int rider = 0; rider < 3; rider++) {
            x.board(0, rider);
        }
        x.drive(0, 10, 5);
        x.finish(0);
        x.dispute(0, 0);
        settled(x, 0, 1, 50, true);
        x.closeWeek();
        finished(x, 1, 4, 2, 5);
        driven(x, 0, 3, 3, 6, 7);
        x.book(2, 8);
        x.cancel(2, 8);
        x.book(2, 4);
        x.book(2, 5);
        x.start(2);
        return x;
    }
}
