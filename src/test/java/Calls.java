import java.util.LinkedHashMap;
import java.util.Map;
import java.util.function.BiFunction;

/** The calls by what they ask for: a ride, a rider, a driver or a driver's week; the rest is in range. */
final class Calls {
    private Calls() {
    }

    static Map<String, BiFunction<Wheelpay, Integer, Object>> ofRide() {
        Map<String, BiFunction<Wheelpay, Integer, Object>> calls = new LinkedHashMap<>();
        calls.put("book", (x, ride) -> x.book(ride, 0));
        calls.put("cancel", (x, ride) -> x.cancel(ride, 0));
        calls.put("board", (x, ride) -> x.board(ride, 0));
        calls.put("leave", (x, ride) -> x.leave(ride, 0));
        calls.put("drive", (x, ride) -> x.drive(ride, 1, 1));
        calls.put("finish", (x, ride) -> x.finish(ride));
        calls.put("aboard", (x, ride) -> x.aboard(ride));
        calls.put("charge", (x, ride) -> x.charge(ride, 0));
        calls.put("isVoid", (x, ride) -> x.isVoid(ride));
        calls.put("dispute", (x, ride) -> x.dispute(ride, 0));
        calls.put("settle", (x, ride) -> x.settle(ride, 0, 50, true));
        return calls;
    }

    static Map<String, BiFunction<Wheelpay, Integer, Object>> ofRider() {
        Map<String, BiFunction<Wheelpay, Integer, Object>> calls = new LinkedHashMap<>();
        calls.put("book", (x, rider) -> x.book(0, rider));
        calls.put("cancel", (x, rider) -> x.cancel(0, rider));
        calls.put("board", (x, rider) -> x.board(0, rider));
        calls.put("leave", (x, rider) -> x.leave(0, rider));
        calls.put("charge", (x, rider) -> x.charge(0, rider));
        calls.put("dispute", (x, rider) -> x.dispute(0, rider));
        calls.put("settle", (x, rider) -> x.settle(0, rider, 50, true));
        calls.put("spent", (x, rider) -> x.spent(rider));
        calls.put("averageCharge", (x, rider) -> x.averageCharge(rider));
        return calls;
    }

    static Map<String, BiFunction<Wheelpay, Integer, Object>> ofDriver() {
        Map<String, BiFunction<Wheelpay, Integer, Object>> calls = new LinkedHashMap<>();
        calls.put("start", (x, driver) -> x.start(driver));
        calls.put("earnings", (x, driver) -> x.earnings(driver, 0));
        calls.put("topUp", (x, driver) -> x.topUp(driver, 0));
        calls.put("bonus", (x, driver) -> x.bonus(driver, 0));
        calls.put("pay", (x, driver) -> x.pay(driver, 0));
        calls.put("balance", (x, driver) -> x.balance(driver));
        calls.put("paid", (x, driver) -> x.paid(driver));
        return calls;
    }

    static Map<String, BiFunction<Wheelpay, Integer, Object>> ofWeek() {
        Map<String, BiFunction<Wheelpay, Integer, Object>> calls = new LinkedHashMap<>();
        calls.put("earnings", (x, week) -> x.earnings(0, week));
        calls.put("topUp", (x, week) -> x.topUp(0, week));
        calls.put("bonus", (x, week) -> x.bonus(0, week));
        calls.put("pay", (x, week) -> x.pay(0, week));
        return calls;
    }

    static Object setRates(Wheelpay x, int byKilometre, int byMinute) {
        x.setRates(byKilometre, byMinute);
        return "set";
    }
}
