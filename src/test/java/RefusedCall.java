import java.util.ArrayList;
import java.util.List;
import java.util.function.Function;

/** Calls that Given.manyThings() refuses, with the exception that is due. */
final class RefusedCall {
    final String what;
    final Function<Wheelpay, Object> call;
    final Class<? extends RuntimeException> kind;

    private RefusedCall(String what, Function<Wheelpay, Object> call, Class<? extends RuntimeException> kind) {
        this.what = what;
        this.call = call;
        this.kind = kind;
    }

    private static final class Calling {
        final Class<? extends RuntimeException> kind;
        final List<RefusedCall> all = new ArrayList<>();

        Calling(Class<? extends RuntimeException> kind) {
            this.kind = kind;
        }

        void add(String what, Function<Wheelpay, Object> call) {
            all.add(new RefusedCall(what, call, kind));
        }
    }

    static List<RefusedCall> everyOne() {
        List<RefusedCall> all = new ArrayList<>();
        all.addAll(doesNotExist());
        all.addAll(outOfRange());
        all.addAll(notPossible());
        all.addAll(indexFirst());
        all.addAll(argumentSecond());
        return all;
    }

    static List<RefusedCall> doesNotExist() {
        Calling calls = new Calling(Given.OUT);
        for (int wrong : new int[] {-1, 4, 40, Given.LOW, Given.HIGH}) {
            Calls.ofRide().forEach((name, call) -> calls.add(name + ", ride " + wrong, x -> call.apply(x, wrong)));
        }
        for (int wrong : Given.noRiders()) {
            Calls.ofRider().forEach((name, call) -> calls.add(name + ", rider " + wrong, x -> call.apply(x, wrong)));
        }
        for (int wrong : Given.noDrivers()) {
            Calls.ofDriver().forEach((name, call) -> calls.add(name + ", driver " + wrong,
                x -> call.apply(x, wrong)));
        }
        return calls.all;
    }

    static List<RefusedCall> outOfRange() {
        Calling calls = new Calling(Given.ARGUMENT);
        for (int wrong : new int[] {-1, 1001, Given.LOW, Given.HIGH}) {
            calls.add("setRates(" + wrong + ", 1)", x -> Calls.setRates(x, wrong, 1));
            calls.add("setRates(1, " + wrong + ")", x -> Calls.setRates(x, 1, wrong));
        }
        for (int wrong : new int[] {-1, 101, Given.LOW, Given.HIGH}) {
            calls.add("drive(2, " + wrong + ", 1)", x -> x.drive(2, wrong, 1));
            calls.add("settle(0, 0, " + wrong + ", true)", x -> x.settle(0, 0, wrong, true));
        }
        for (int wrong : new int[] {0, -1, 121, Given.LOW, Given.HIGH}) {
            calls.add("drive(2, 1, " + wrong + ")", x -> x.drive(2, 1, wrong));
        }
        for (int wrong : new int[] {-1, 2, 32, Given.LOW, Given.HIGH}) {
            Calls.ofWeek().forEach((name, call) -> calls.add(name + ", week " + wrong, x -> call.apply(x, wrong)));
        }
        return calls.all;
    }

    static List<RefusedCall> notPossible() {
        Calling calls = new Calling(Given.STATE);
        calls.add("start(0), under way", x -> x.start(0));
        calls.add("book(0, 5), finished", x -> x.book(0, 5));
        calls.add("book(2, 9), full", x -> x.book(2, 9));
        calls.add("book(2, 4), booked", x -> x.book(2, 4));
        calls.add("book(2, 6), aboard", x -> x.book(2, 6));
        calls.add("cancel(0, 3), finished", x -> x.cancel(0, 3));
        calls.add("cancel(2, 6), aboard", x -> x.cancel(2, 6));
        calls.add("cancel(2, 8), cancelled", x -> x.cancel(2, 8));
        calls.add("cancel(3, 0), nobody", x -> x.cancel(3, 0));
        calls.add("board(0, 5), finished", x -> x.board(0, 5));
        calls.add("board(2, 6), aboard", x -> x.board(2, 6));
        calls.add("board(2, 9), full", x -> x.board(2, 9));
        calls.add("leave(0, 0), finished", x -> x.leave(0, 0));
        calls.add("leave(2, 4), booked", x -> x.leave(2, 4));
        calls.add("leave(3, 0), nobody", x -> x.leave(3, 0));
        calls.add("drive(0, 1, 1), finished", x -> x.drive(0, 1, 1));
        calls.add("finish(0), finished", x -> x.finish(0));
        calls.add("dispute(2, 6), under way", x -> x.dispute(2, 6));
        calls.add("dispute(0, 9), charge 0", x -> x.dispute(0, 9));
        calls.add("dispute(0, 0), disputed", x -> x.dispute(0, 0));
        calls.add("dispute(0, 1), settled", x -> x.dispute(0, 1));
        calls.add("settle(0, 2, 50, true), not disputed", x -> x.settle(0, 2, 50, true));
        calls.add("settle(0, 1, 60, false), settled", x -> x.settle(0, 1, 60, false));
        calls.add("settle(2, 6, 50, true), under way", x -> x.settle(2, 6, 50, true));
        calls.add("closeWeek(), under way", Wheelpay::closeWeek);
        calls.add("averageCharge(9), no ride", x -> x.averageCharge(9));
        calls.add("averageCharge(6), under way", x -> x.averageCharge(6));
        return calls.all;
    }

    /** A ride, rider or driver that does not exist, with something else that is wrong too. */
    static List<RefusedCall> indexFirst() {
        Calling calls = new Calling(Given.OUT);
        calls.add("book(0, 10), finished", x -> x.book(0, 10));
        calls.add("cancel(0, 10), finished", x -> x.cancel(0, 10));
        calls.add("board(0, 10), finished", x -> x.board(0, 10));
        calls.add("leave(0, 10), finished", x -> x.leave(0, 10));
        calls.add("book(2, -1), full", x -> x.book(2, -1));
        calls.add("board(2, -1), full", x -> x.board(2, -1));
        calls.add("dispute(2, 10), under way", x -> x.dispute(2, 10));
        calls.add("settle(2, 10, 50, true), under way", x -> x.settle(2, 10, 50, true));
        calls.add("averageCharge(10), no ride", x -> x.averageCharge(10));
        calls.add("drive(4, -1, 1)", x -> x.drive(4, -1, 1));
        calls.add("drive(-1, 1, 121)", x -> x.drive(-1, 1, 121));
        calls.add("settle(4, 0, 101, true)", x -> x.settle(4, 0, 101, true));
        calls.add("settle(0, 10, -1, true)", x -> x.settle(0, 10, -1, true));
        calls.add("settle(0, -1, 101, true)", x -> x.settle(0, -1, 101, true));
        calls.add("earnings(5, 2)", x -> x.earnings(5, 2));
        calls.add("topUp(-1, -1)", x -> x.topUp(-1, -1));
        calls.add("bonus(5, -1)", x -> x.bonus(5, -1));
        calls.add("pay(-1, 2)", x -> x.pay(-1, 2));
        return calls.all;
    }

    /** An argument out of range of a call that is not possible now. */
    static List<RefusedCall> argumentSecond() {
        Calling calls = new Calling(Given.ARGUMENT);
        calls.add("drive(0, 101, 1), finished", x -> x.drive(0, 101, 1));
        calls.add("drive(0, -1, 1), finished", x -> x.drive(0, -1, 1));
        calls.add("drive(0, 1, 0), finished", x -> x.drive(0, 1, 0));
        calls.add("drive(0, 1, 121), finished", x -> x.drive(0, 1, 121));
        calls.add("settle(0, 2, 101, true), not disputed", x -> x.settle(0, 2, 101, true));
        calls.add("settle(0, 1, -1, true), settled", x -> x.settle(0, 1, -1, true));
        calls.add("settle(2, 6, 101, true), under way", x -> x.settle(2, 6, 101, true));
        calls.add("settle(3, 0, -1, true), nobody", x -> x.settle(3, 0, -1, true));
        return calls.all;
    }
}
