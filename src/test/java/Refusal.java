import java.util.function.BiFunction;
import java.util.function.Function;
import java.util.function.Supplier;

/** Calls that are refused: the exception that is due, and a purse that goes on as if never asked. */
final class Refusal {
    private Refusal() {
    }

    static void due(String what, Supplier<Wheelpay> given, Function<Wheelpay, Object> call,
            Class<? extends RuntimeException> kind) {
        Wheelpay x = given.get();
        Check.refused(what, () -> call.apply(x), kind);
        unchanged(what, Trace.of(x), Trace.of(given.get()));
    }

    private static void unchanged(String what, String got, String want) {
        String[] gotLines = got.split("\n");
        String[] wantLines = want.split("\n");
        int at = 0;
        while (at < gotLines.length - 1 && at < wantLines.length - 1 && gotLines[at].equals(wantLines[at])) {
            at++;
        }
        Check.compare("after a refused " + what + ", a call", gotLines[at], wantLines[at]);
        Check.compare("after a refused " + what + ", calls", "" + gotLines.length, "" + wantLines.length);
    }

    /** A call of a ride, for rides that do not exist where there are none, one and all of them. */
    static void noSuchRide(String name, BiFunction<Wheelpay, Integer, Object> call) {
        for (int wrong : new int[] {0, -1, 1, Given.LOW, Given.HIGH}) {
            refused(name, Wheelpay::new, call, wrong, Given.OUT);
        }
        for (int wrong : Given.noRides()) {
            refused(name, Given::oneRide, call, wrong, Given.OUT);
        }
        for (int wrong : new int[] {-1, 40, 41, 71, Given.LOW, Given.HIGH}) {
            refused(name, Given::fortyRides, call, wrong, Given.OUT);
        }
    }

    static void noSuchRider(String name, Supplier<Wheelpay> given, BiFunction<Wheelpay, Integer, Object> call) {
        for (int wrong : Given.noRiders()) {
            refused(name, given, call, wrong, Given.OUT);
        }
    }

    static void noSuchDriver(String name, Supplier<Wheelpay> given, BiFunction<Wheelpay, Integer, Object> call) {
        for (int wrong : Given.noDrivers()) {
            refused(name, given, call, wrong, Given.OUT);
        }
    }

    /** A call of a driver's week: those that are out of range in week 0, in week 1 and in the last one. */
    static void noSuchWeek(String name, BiFunction<Wheelpay, Integer, Object> call) {
        for (int wrong : new int[] {-1, -2, 1, 2, 32, Given.LOW, Given.HIGH}) {
            refused(name, Given::oneFinished, call, wrong, Given.ARGUMENT);
        }
        for (int wrong : new int[] {-1, 2, 3, 33, Given.LOW, Given.HIGH}) {
            refused(name, Given::manyThings, call, wrong, Given.ARGUMENT);
        }
        for (int wrong : new int[] {-1, 21, 22, 32, Given.LOW, Given.HIGH}) {
            refused(name, Given::allWeeksClosed, call, wrong, Given.ARGUMENT);
        }
    }

    private static void refused(String name, Supplier<Wheelpay> given, BiFunction<Wheelpay, Integer, Object> call,
            int wrong, Class<? extends RuntimeException> kind) {
        due(name + " with " + wrong, given, x -> call.apply(x, wrong), kind);
    }
}
