import java.util.ArrayList;

/** The purse of shared taxis: fares, fees, disputes and the weekly pay of drivers, all in cents. */
public final class Wheelpay {
    private static final int RIDERS = 10;
    private static final int DRIVERS = 5;
    private static final int MOST_RIDES = 40;
    private static final int MOST_CLOSED_WEEKS = 20;
    private static final int SEATS = 4;

    private static final int FIRST_KILOMETRE_RATE = 100;
    private static final int FIRST_MINUTE_RATE = 20;
    private static final int MOST_RATE = 1000;
    private static final int MOST_KILOMETRES = 100;
    private static final int MOST_MINUTES = 120;

    private static final int CANCEL_FEE = 250;
    private static final int ABSENCE_FEE = 400;

    private static final int HOUSE_PART = 5;
    private static final int FLOOR_BY_HOUR = 1500;
    private static final int MINUTES_OF_HOUR = 60;

    private static final int SMALL_BONUS_RIDES = 3;
    private static final int MIDDLE_BONUS_RIDES = 6;
    private static final int LARGE_BONUS_RIDES = 9;
    private static final int SMALL_BONUS = 1000;
    private static final int MIDDLE_BONUS = 3000;
    private static final int LARGE_BONUS = 6000;

    private final ArrayList<Ride> rides;
    private final int[] paidOut;
    private int kilometreRate;
    private int minuteRate;
    private int presentWeek;

    public Wheelpay() {
        rides = new ArrayList<Ride>();
        paidOut = new int[DRIVERS];
        kilometreRate = FIRST_KILOMETRE_RATE;
        minuteRate = FIRST_MINUTE_RATE;
        presentWeek = 0;
    }

    // ---- rides

    public void setRates(int byKilometre, int byMinute) throws IllegalArgumentException {
        checkRange(byKilometre, 0, MOST_RATE);
        checkRange(byMinute, 0, MOST_RATE);
        kilometreRate = byKilometre;
        minuteRate = byMinute;
    }

    public int start(int driver) throws IndexOutOfBoundsException, IllegalStateException {
        checkDriver(driver);
        if (rides.size() >= MOST_RIDES) {
            throw new IllegalStateException("there have been 40 rides");
        }
        if (isDriving(driver)) {
            throw new IllegalStateException("a ride of the driver is under way");
        }
        rides.add(new Ride(driver, presentWeek));
        return rides.size() - 1;
    }

    public int book(int ride, int rider) throws IndexOutOfBoundsException, IllegalStateException {
        Ride asked = rideUnderWay(ride, rider);
        if (asked.hasBooked(rider) || asked.hasAboard(rider)) {
            throw new IllegalStateException("the rider has a seat");
        }
        if (asked.freeSeats() <= 0) {
            throw new IllegalStateException("no seat is free");
        }
        asked.addBooking(rider);
        return asked.freeSeats();
    }

    public int cancel(int ride, int rider) throws IndexOutOfBoundsException, IllegalStateException {
        Ride asked = rideUnderWay(ride, rider);
        if (!asked.hasBooked(rider)) {
            throw new IllegalStateException("the rider has no booked seat");
        }
        return asked.dropBooking(rider);
    }

    public int board(int ride, int rider) throws IndexOutOfBoundsException, IllegalStateException {
        Ride asked = rideUnderWay(ride, rider);
        if (asked.hasAboard(rider)) {
            throw new IllegalStateException("the rider is aboard");
        }
        if (!asked.hasBooked(rider) && asked.freeSeats() <= 0) {
            throw new IllegalStateException("no seat is booked and none is free");
        }
        return asked.takeAboard(rider);
    }

    public int leave(int ride, int rider) throws IndexOutOfBoundsException, IllegalStateException {
        Ride asked = rideUnderWay(ride, rider);
        if (!asked.hasAboard(rider)) {
            throw new IllegalStateException("the rider is not aboard");
        }
        asked.letOut(rider);
        return asked.chargeOf(rider);
    }

    public int drive(int ride, int kilometres, int minutes)
            throws IndexOutOfBoundsException, IllegalArgumentException, IllegalStateException {
        Ride asked = existingRide(ride);
        checkRange(kilometres, 0, MOST_KILOMETRES);
        checkRange(minutes, 1, MOST_MINUTES);
        checkUnderWay(asked);
        return asked.addStretch(kilometres * kilometreRate + minutes * minuteRate, minutes);
    }

    public int finish(int ride) throws IndexOutOfBoundsException, IllegalStateException {
        Ride asked = existingRide(ride);
        checkUnderWay(asked);
        asked.end();
        return asked.allCharges();
    }

    public int aboard(int ride) throws IndexOutOfBoundsException {
        return existingRide(ride).ridersAboard();
    }

    public int charge(int ride, int rider) throws IndexOutOfBoundsException {
        Ride asked = existingRide(ride);
        checkRider(rider);
        return asked.chargeOf(rider);
    }

    public boolean isVoid(int ride) throws IndexOutOfBoundsException {
        return existingRide(ride).countsAsVoid();
    }

    // ---- disputes

    public int dispute(int ride, int rider) throws IndexOutOfBoundsException, IllegalStateException {
        Ride asked = existingRide(ride);
        checkRider(rider);
        if (!asked.isFinished()) {
            throw new IllegalStateException("the ride is under way");
        }
        if (asked.chargeOf(rider) == 0) {
            throw new IllegalStateException("the charge is 0");
        }
        if (asked.hasDisputed(rider)) {
            throw new IllegalStateException("the charge has been disputed");
        }
        asked.addDispute(rider);
        return asked.chargeOf(rider);
    }

    public int settle(int ride, int rider, int percentage, boolean isByDriver)
            throws IndexOutOfBoundsException, IllegalArgumentException, IllegalStateException {
        Ride asked = existingRide(ride);
        checkRider(rider);
        checkRange(percentage, 0, 100);
        if (!asked.hasDisputed(rider)) {
            throw new IllegalStateException("the charge has not been disputed");
        }
        if (asked.hasSettled(rider)) {
            throw new IllegalStateException("the dispute is settled");
        }
        return asked.refund(rider, percentage, isByDriver);
    }

    public int openDisputes() {
        int open = 0;
        for (int i = 0; i < rides.size(); i++) {
            open += rides.get(i).unsettledDisputes();
        }
        return open;
    }

    // ---- weeks and money

    public int closeWeek() throws IllegalStateException {
        if (presentWeek >= MOST_CLOSED_WEEKS) {
            throw new IllegalStateException("20 weeks have been closed");
        }
        if (isAnyUnderWay()) {
            throw new IllegalStateException("a ride is under way");
        }
        presentWeek++;
        int sum = 0;
        for (int driver = 0; driver < DRIVERS; driver++) {
            int due = dueTo(driver);
            if (due > 0) {
                paidOut[driver] += due;
                sum += due;
            }
        }
        return sum;
    }

    public int week() {
        return presentWeek;
    }

    public int earnings(int driver, int week) throws IndexOutOfBoundsException, IllegalArgumentException {
        checkDriver(driver);
        checkRange(week, 0, presentWeek);
        return earningsFor(driver, week);
    }

    public int topUp(int driver, int week) throws IndexOutOfBoundsException, IllegalArgumentException {
        checkDriver(driver);
        checkRange(week, 0, presentWeek);
        return topUpOn(earningsFor(driver, week), driver, week);
    }

    public int bonus(int driver, int week) throws IndexOutOfBoundsException, IllegalArgumentException {
        checkDriver(driver);
        checkRange(week, 0, presentWeek);
        return bonusFor(driver, week);
    }

    public int pay(int driver, int week) throws IndexOutOfBoundsException, IllegalArgumentException {
        checkDriver(driver);
        checkRange(week, 0, presentWeek);
        return payFor(driver, week);
    }

    public int balance(int driver) throws IndexOutOfBoundsException {
        checkDriver(driver);
        return dueTo(driver);
    }

    public int paid(int driver) throws IndexOutOfBoundsException {
        checkDriver(driver);
        return paidOut[driver];
    }

    public int spent(int rider) throws IndexOutOfBoundsException {
        checkRider(rider);
        int sum = 0;
        for (int i = 0; i < rides.size(); i++) {
            Ride each = rides.get(i);
            if (each.isFinished()) {
                sum += each.chargeOf(rider) - each.refundOf(rider);
            }
        }
        return sum;
    }

    public int house() {
        int sum = 0;
        for (int i = 0; i < rides.size(); i++) {
            Ride each = rides.get(i);
            if (each.isFinished()) {
                sum += each.allCharges() - each.allRefunds();
            }
        }
        for (int driver = 0; driver < DRIVERS; driver++) {
            sum -= payBefore(driver, presentWeek + 1);
        }
        return sum;
    }

    public float averageCharge(int rider) throws IndexOutOfBoundsException, IllegalStateException {
        checkRider(rider);
        int sum = 0;
        int charged = 0;
        for (int i = 0; i < rides.size(); i++) {
            Ride each = rides.get(i);
            if (each.isFinished() && each.chargeOf(rider) > 0) {
                sum += each.chargeOf(rider);
                charged++;
            }
        }
        if (charged == 0) {
            throw new IllegalStateException("the rider was charged for no finished ride");
        }
        return (float) sum / (float) charged;
    }

    // ---- what a driver is due

    private int earningsFor(int driver, int week) {
        int sum = 0;
        for (int i = 0; i < rides.size(); i++) {
            Ride each = rides.get(i);
            if (each.isFinishedBy(driver, week)) {
                sum += each.allForDriver();
            }
        }
        return sum;
    }

    private int floorFor(int driver, int week) {
        int minutes = 0;
        for (int i = 0; i < rides.size(); i++) {
            Ride each = rides.get(i);
            if (each.isFinishedBy(driver, week) && !each.countsAsVoid()) {
                minutes += each.allMinutes();
            }
        }
        return FLOOR_BY_HOUR * minutes / MINUTES_OF_HOUR;
    }

    private int topUpOn(int earned, int driver, int week) {
        return Math.max(floorFor(driver, week) - earned, 0);
    }

    private int bonusFor(int driver, int week) {
        int count = 0;
        for (int i = 0; i < rides.size(); i++) {
            Ride each = rides.get(i);
            if (each.isFinishedBy(driver, week) && !each.countsAsVoid()) {
                count++;
            }
        }
        return bonusForRides(count);
    }

    private static int bonusForRides(int count) {
        if (count >= LARGE_BONUS_RIDES) {
            return LARGE_BONUS;
        }
        if (count >= MIDDLE_BONUS_RIDES) {
            return MIDDLE_BONUS;
        }
        return count >= SMALL_BONUS_RIDES ? SMALL_BONUS : 0;
    }

    private int payFor(int driver, int week) {
        int earned = earningsFor(driver, week);
        return earned + topUpOn(earned, driver, week) + bonusFor(driver, week);
    }

    private int payBefore(int driver, int endWeek) {
        int sum = 0;
        for (int week = 0; week < endWeek; week++) {
            sum += payFor(driver, week);
        }
        return sum;
    }

    private int dueTo(int driver) {
        return payBefore(driver, presentWeek) - paidOut[driver];
    }

    // ---- what is under way

    private boolean isDriving(int driver) {
        for (int i = 0; i < rides.size(); i++) {
            Ride each = rides.get(i);
            if (each.isDrivenBy(driver) && !each.isFinished()) {
                return true;
            }
        }
        return false;
    }

    private boolean isAnyUnderWay() {
        for (int i = 0; i < rides.size(); i++) {
            if (!rides.get(i).isFinished()) {
                return true;
            }
        }
        return false;
    }

    // ---- tests of arguments

    private Ride existingRide(int ride) {
        if (ride < 0 || ride >= rides.size()) {
            throw new IndexOutOfBoundsException("no such ride");
        }
        return rides.get(ride);
    }

    private Ride rideUnderWay(int ride, int rider) {
        Ride asked = existingRide(ride);
        checkRider(rider);
        checkUnderWay(asked);
        return asked;
    }

    private static void checkUnderWay(Ride asked) {
        if (asked.isFinished()) {
            throw new IllegalStateException("the ride is not under way");
        }
    }

    private static void checkRider(int rider) {
        if (rider < 0 || rider >= RIDERS) {
            throw new IndexOutOfBoundsException("no such rider");
        }
    }

    private static void checkDriver(int driver) {
        if (driver < 0 || driver >= DRIVERS) {
            throw new IndexOutOfBoundsException("no such driver");
        }
    }

    private static void checkRange(int value, int least, int most) {
        if (value < least || value > most) {
            throw new IllegalArgumentException("out of range");
        }
    }

    /** One ride. Its callers have tested every rider that they hand in to be 0 to 9. */
    private static final class Ride {
        private final int driver;
        private final int startWeek;
        private final int[] charges;
        private final int[] refunds;
        private int minutes;
        private boolean finished;

        // Sets of riders, bit r for rider r, as the document's answer of aboard wants them.
        private int booked;
        private int seated;
        private int disputed;
        private int settled;
        private int faulted;

        Ride(int driver, int startWeek) {
            this.driver = driver;
            this.startWeek = startWeek;
            charges = new int[RIDERS];
            refunds = new int[RIDERS];
        }

        private static boolean holds(int set, int rider) {
            return (set >> rider & 1) != 0;
        }

        boolean isFinished() {
            return finished;
        }

        boolean isDrivenBy(int someDriver) {
            return driver == someDriver;
        }

        boolean isFinishedBy(int someDriver, int someWeek) {
            return finished && driver == someDriver && startWeek == someWeek;
        }

        boolean hasBooked(int rider) {
            return holds(booked, rider);
        }

        boolean hasAboard(int rider) {
            return holds(seated, rider);
        }

        boolean hasDisputed(int rider) {
            return holds(disputed, rider);
        }

        boolean hasSettled(int rider) {
            return holds(settled, rider);
        }

        int freeSeats() {
            return SEATS - Integer.bitCount(booked) - Integer.bitCount(seated);
        }

        int ridersAboard() {
            return seated;
        }

        int allMinutes() {
            return minutes;
        }

        int chargeOf(int rider) {
            return charges[rider];
        }

        int refundOf(int rider) {
            return refunds[rider];
        }

        void addBooking(int rider) {
            booked |= 1 << rider;
        }

        int dropBooking(int rider) {
            booked &= ~(1 << rider);
            // A stretch has at least one minute, so minutes tell whether there was one.
            int fee = minutes == 0 ? 0 : CANCEL_FEE;
            charges[rider] += fee;
            return fee;
        }

        int takeAboard(int rider) {
            booked &= ~(1 << rider);
            seated |= 1 << rider;
            return Integer.bitCount(seated);
        }

        void letOut(int rider) {
            seated &= ~(1 << rider);
        }

        int addStretch(int cost, int stretchMinutes) {
            minutes += stretchMinutes;
            int riders = Integer.bitCount(seated);
            if (riders == 0) {
                return 0;
            }
            int share = cost / riders;
            int left = cost % riders;
            for (int rider = 0; rider < RIDERS; rider++) {
                if (holds(seated, rider)) {
                    charges[rider] += left > 0 ? share + 1 : share;
                    left--;
                }
            }
            return cost;
        }

        void end() {
            for (int rider = 0; rider < RIDERS; rider++) {
                if (holds(booked, rider)) {
                    charges[rider] += ABSENCE_FEE;
                }
            }
            seated = 0;
            finished = true;
        }

        int allCharges() {
            int sum = 0;
            for (int rider = 0; rider < RIDERS; rider++) {
                sum += charges[rider];
            }
            return sum;
        }

        int allRefunds() {
            int sum = 0;
            for (int rider = 0; rider < RIDERS; rider++) {
                sum += refunds[rider];
            }
            return sum;
        }

        void addDispute(int rider) {
            disputed |= 1 << rider;
        }

        int refund(int rider, int percentage, boolean isByDriver) {
            settled |= 1 << rider;
            if (isByDriver) {
                faulted |= 1 << rider;
            }
            // A hundred times a charge can be more than an int holds.
            refunds[rider] = (int) ((long) charges[rider] * percentage / 100);
            return refunds[rider];
        }

        int unsettledDisputes() {
            return Integer.bitCount(disputed & ~settled);
        }

        int allForDriver() {
            int sum = 0;
            for (int rider = 0; rider < RIDERS; rider++) {
                sum += forDriver(rider);
            }
            return sum;
        }

        private int forDriver(int rider) {
            int counted = charges[rider];
            if (holds(faulted, rider)) {
                counted -= refunds[rider];
            }
            return counted - counted / HOUSE_PART;
        }

        // Not named isVoid: LANGUAGE.md keeps the names of the face for the face.
        boolean countsAsVoid() {
            boolean isCharged = false;
            for (int rider = 0; rider < RIDERS; rider++) {
                if (charges[rider] > 0) {
                    isCharged = true;
                    if (!holds(faulted, rider) || refunds[rider] != charges[rider]) {
                        return false;
                    }
                }
            }
            return finished && isCharged;
        }
    }
}
