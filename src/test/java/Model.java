import java.util.ArrayList;
import java.util.HashMap;
import java.util.HashSet;
import java.util.List;
import java.util.Map;
import java.util.Set;
import java.util.TreeSet;

/** The document read a second time: everything is asked of logs, and nothing is kept as a sum. */
final class Model {
    private static final class Fare {
        final int rider;
        final long cents;

        Fare(int rider, long cents) {
            this.rider = rider;
            this.cents = cents;
        }
    }

    private static final class Trip {
        int driver;
        int week;
        boolean over;
        final Set<Integer> reserved = new HashSet<>();
        final TreeSet<Integer> inside = new TreeSet<>();
        final List<Fare> fares = new ArrayList<>();
        final List<Integer> stretches = new ArrayList<>();
        final Set<Integer> disputes = new HashSet<>();
        final Map<Integer, Long> refunds = new HashMap<>();
        final Set<Integer> faults = new HashSet<>();

        long fare(int rider) {
            return fares.stream().filter(f -> f.rider == rider).mapToLong(f -> f.cents).sum();
        }

        long refund(int rider) {
            return refunds.getOrDefault(rider, 0L);
        }

        boolean full() {
            return reserved.size() + inside.size() == 4;
        }

        boolean isVoid() {
            boolean some = false;
            boolean all = true;
            for (int r = 0; r < 10; r++) {
                if (fare(r) > 0) {
                    some = true;
                    all &= faults.contains(r) && refund(r) == fare(r);
                }
            }
            return over && some && all;
        }

        long driverPart() {
            long sum = 0;
            for (int r = 0; r < 10; r++) {
                long base = fare(r) - (faults.contains(r) ? refund(r) : 0);
                sum += base - base / 5;
            }
            return sum;
        }
    }

    private final List<Trip> trips = new ArrayList<>();
    private final List<long[]> payments = new ArrayList<>();
    private int kmRate = 100;
    private int minRate = 20;

    private static void outside(boolean wrong) {
        if (wrong) {
            throw new IndexOutOfBoundsException();
        }
    }

    private static void argument(boolean wrong) {
        if (wrong) {
            throw new IllegalArgumentException();
        }
    }

    private static void state(boolean wrong) {
        if (wrong) {
            throw new IllegalStateException();
        }
    }

    private Trip trip(int ride) {
        outside(ride < 0 || ride >= trips.size());
        return trips.get(ride);
    }

    private Trip trip(int ride, int rider) {
        outside(rider < 0 || rider > 9);
        return trip(ride);
    }

    /** The answer of the call with this name; arguments that a call does not take are not looked at. */
    Object answer(String name, int a, int b, int c, boolean d) {
        switch (name) {
            case "setRates": return setRates(a, b);
            case "start": return start(a);
            case "book": return book(trip(a, b), b);
            case "cancel": return cancel(trip(a, b), b);
            case "board": return board(trip(a, b), b);
            case "leave": return leave(trip(a, b), b);
            case "drive": return drive(trip(a), b, c);
            case "finish": return finish(trip(a));
            case "aboard": return trip(a).inside.stream().mapToInt(r -> 1 << r).sum();
            case "charge": return trip(a, b).fare(b);
            case "isVoid": return trip(a).isVoid();
            case "dispute": return dispute(trip(a, b), b);
            case "settle": return settle(trip(a, b), b, c, d);
            case "openDisputes": return trips.stream().mapToInt(t -> t.disputes.size() - t.refunds.size()).sum();
            case "closeWeek": return closeWeek();
            case "week": return payments.size();
            case "house": return house();
            case "spent": return spent(a);
            case "averageCharge": return averageCharge(a);
            default: return ofDriver(name, a, b);
        }
    }

    private Object ofDriver(String name, int driver, int week) {
        outside(driver < 0 || driver > 4);
        if (name.equals("balance")) {
            return balance(driver);
        }
        if (name.equals("paid")) {
            return paid(driver);
        }
        argument(week < 0 || week > payments.size());
        switch (name) {
            case "earnings": return earnings(driver, week);
            case "topUp": return topUp(driver, week);
            case "bonus": return bonus(driver, week);
            case "pay": return pay(driver, week);
            default: throw new UnsupportedOperationException(name);
        }
    }

    private String setRates(int km, int min) {
        argument(km < 0 || km > 1000 || min < 0 || min > 1000);
        kmRate = km;
        minRate = min;
        return "nothing";
    }

    private int start(int driver) {
        outside(driver < 0 || driver > 4);
        state(trips.size() == 40 || trips.stream().anyMatch(t -> t.driver == driver && !t.over));
        Trip t = new Trip();
        t.driver = driver;
        t.week = payments.size();
        trips.add(t);
        return trips.size() - 1;
    }

    private int book(Trip t, int rider) {
        state(t.over || t.full() || t.reserved.contains(rider) || t.inside.contains(rider));
        t.reserved.add(rider);
        return 4 - t.reserved.size() - t.inside.size();
    }

    private int cancel(Trip t, int rider) {
        state(t.over || !t.reserved.remove(rider));
        if (t.stretches.isEmpty()) {
            return 0;
        }
        t.fares.add(new Fare(rider, 250));
        return 250;
    }

    private int board(Trip t, int rider) {
        state(t.over || t.inside.contains(rider) || !t.reserved.contains(rider) && t.full());
        t.reserved.remove(rider);
        t.inside.add(rider);
        return t.inside.size();
    }

    private long leave(Trip t, int rider) {
        state(t.over || !t.inside.remove(rider));
        return t.fare(rider);
    }

    private long drive(Trip t, int km, int min) {
        argument(km < 0 || km > 100 || min < 1 || min > 120);
        state(t.over);
        t.stretches.add(min);
        if (t.inside.isEmpty()) {
            return 0;
        }
        long cost = (long) km * kmRate + (long) min * minRate;
        long each = cost / t.inside.size();
        t.inside.forEach(r -> t.fares.add(new Fare(r, each)));
        long left = cost - each * t.inside.size();
        t.inside.stream().limit(left).forEach(r -> t.fares.add(new Fare(r, 1)));
        return cost;
    }

    private long finish(Trip t) {
        state(t.over);
        t.reserved.forEach(r -> t.fares.add(new Fare(r, 400)));
        t.inside.clear();
        t.over = true;
        return t.fares.stream().mapToLong(f -> f.cents).sum();
    }

    private long dispute(Trip t, int rider) {
        state(!t.over || t.fare(rider) == 0 || !t.disputes.add(rider));
        return t.fare(rider);
    }

    private long settle(Trip t, int rider, int percentage, boolean isByDriver) {
        argument(percentage < 0 || percentage > 100);
        state(!t.disputes.contains(rider) || t.refunds.containsKey(rider));
        t.refunds.put(rider, t.fare(rider) * percentage / 100);
        if (isByDriver) {
            t.faults.add(rider);
        }
        return t.refund(rider);
    }

    private long earnings(int driver, int week) {
        return trips.stream().filter(t -> t.over && t.driver == driver && t.week == week)
            .mapToLong(Trip::driverPart).sum();
    }

    private long topUp(int driver, int week) {
        long minutes = trips.stream()
            .filter(t -> t.over && t.driver == driver && t.week == week && !t.isVoid())
            .flatMap(t -> t.stretches.stream()).mapToLong(m -> m).sum();
        return Math.max(0, minutes * 1500 / 60 - earnings(driver, week));
    }

    private long bonus(int driver, int week) {
        long count = trips.stream()
            .filter(t -> t.over && t.driver == driver && t.week == week && !t.isVoid()).count();
        return count < 3 ? 0 : count < 6 ? 1000 : count < 9 ? 3000 : 6000;
    }

    private long pay(int driver, int week) {
        return earnings(driver, week) + topUp(driver, week) + bonus(driver, week);
    }

    private long paid(int driver) {
        return payments.stream().mapToLong(p -> p[driver]).sum();
    }

    private long balance(int driver) {
        long sum = 0;
        for (int w = 0; w < payments.size(); w++) {
            sum += pay(driver, w);
        }
        return sum - paid(driver);
    }

    private long closeWeek() {
        state(payments.size() == 20 || trips.stream().anyMatch(t -> !t.over));
        long[] payment = new long[5];
        long all = 0;
        for (int driver = 0; driver < 5; driver++) {
            payment[driver] = Math.max(0, balance(driver) + pay(driver, payments.size()));
            all += payment[driver];
        }
        payments.add(payment);
        return all;
    }

    private long spent(int rider) {
        outside(rider < 0 || rider > 9);
        return trips.stream().filter(t -> t.over).mapToLong(t -> t.fare(rider) - t.refund(rider)).sum();
    }

    private long house() {
        long sum = 0;
        for (int rider = 0; rider < 10; rider++) {
            sum += spent(rider);
        }
        for (int driver = 0; driver < 5; driver++) {
            for (int w = 0; w <= payments.size(); w++) {
                sum -= pay(driver, w);
            }
        }
        return sum;
    }

    private float averageCharge(int rider) {
        outside(rider < 0 || rider > 9);
        long[] fares = trips.stream().filter(t -> t.over).mapToLong(t -> t.fare(rider))
            .filter(f -> f > 0).toArray();
        state(fares.length == 0);
        long sum = 0;
        for (long fare : fares) {
            sum += fare;
        }
        return (float) sum / (float) fares.length;
    }
}
