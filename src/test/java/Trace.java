/**
 * What can be seen of a purse, as a text: the answers of every call that only asks, then those of a
 * run of calls that shows what no call asks for (rates, booked seats, stretches, disputes).
 * It takes up to some 400 of the 512 calls of the object.
 */
final class Trace {
    private static final int RIDES_LOOKED_AT = 4;
    private static final int RIDES_LOOKED_AT_OF_MANY = 2;
    private static final int MANY_RIDES = 10;

    private final Wheelpay x;
    private final StringBuilder text = new StringBuilder();

    private Trace(Wheelpay x) {
        this.x = x;
    }

    static String of(Wheelpay x) {
        Trace trace = new Trace(x);
        int end = trace.ridesStarted();
        int begin = Math.max(0, end - (end > MANY_RIDES ? RIDES_LOOKED_AT_OF_MANY : RIDES_LOOKED_AT));
        trace.ask("rides", () -> end);
        trace.look(begin, end);
        trace.startAnew();
        for (int ride = begin; ride < end; ride++) {
            trace.goOn(ride);
        }
        trace.ask("closeWeek", x::closeWeek);
        trace.look(begin, end);
        return trace.text.toString();
    }

    private void ask(String what, Check.Call call) {
        text.append(what).append(" -> ").append(Check.told(call)).append('\n');
    }

    private int ridesStarted() {
        int ride = 0;
        while (ride < 40 && exists(ride)) {
            ride++;
        }
        return ride;
    }

    private boolean exists(int ride) {
        return !Check.told(() -> x.aboard(ride)).startsWith("throws.");
    }

    private void look(int begin, int end) {
        for (int i = begin; i < end; i++) {
            int ride = i;
            ask("aboard(" + ride + ")", () -> x.aboard(ride));
            ask("isVoid(" + ride + ")", () -> x.isVoid(ride));
            for (int j = 0; j < 10; j++) {
                int rider = j;
                ask("charge(" + ride + ", " + rider + ")", () -> x.charge(ride, rider));
            }
        }
        ask("openDisputes", x::openDisputes);
        ask("house", x::house);
        int week = x.week();
        ask("week", () -> week);
        for (int driver = 0; driver < 5; driver++) {
            lookAtDriver(driver, week);
        }
        for (int i = 0; i < 10; i++) {
            int rider = i;
            ask("spent(" + rider + ")", () -> x.spent(rider));
            ask("averageCharge(" + rider + ")", () -> x.averageCharge(rider));
        }
    }

    private void lookAtDriver(int driver, int week) {
        ask("balance(" + driver + ")", () -> x.balance(driver));
        ask("paid(" + driver + ")", () -> x.paid(driver));
        for (int i = Math.max(0, week - 1); i <= week; i++) {
            int of = i;
            ask("earnings(" + driver + ", " + of + ")", () -> x.earnings(driver, of));
            ask("topUp(" + driver + ", " + of + ")", () -> x.topUp(driver, of));
            ask("bonus(" + driver + ", " + of + ")", () -> x.bonus(driver, of));
        }
    }

    /** Tells which drivers have a ride under way, and finishes the new rides again. */
    private void startAnew() {
        for (int i = 0; i < 5; i++) {
            int driver = i;
            String ride = Check.told(() -> x.start(driver));
            ask("start(" + driver + ")", () -> ride);
            if (!ride.startsWith("throws.")) {
                x.finish(Integer.parseInt(ride));
            }
        }
    }

    private void goOn(int ride) {
        for (int i = 0; i < 10; i++) {
            int rider = i;
            ask("cancel(" + ride + ", " + rider + ")", () -> x.cancel(ride, rider));
            ask("leave(" + ride + ", " + rider + ")", () -> x.leave(ride, rider));
        }
        ask("board(" + ride + ", 0)", () -> x.board(ride, 0));
        ask("drive(" + ride + ", 0, 1)", () -> x.drive(ride, 0, 1));
        ask("drive(" + ride + ", 1, 1)", () -> x.drive(ride, 1, 1));
        ask("finish(" + ride + ")", () -> x.finish(ride));
        for (int i = 0; i < 10; i++) {
            int rider = i;
            ask("dispute(" + ride + ", " + rider + ")", () -> x.dispute(ride, rider));
            // Almost all is refunded, so that the minutes show in the top-up.
            ask("settle(" + ride + ", " + rider + ")", () -> x.settle(ride, rider, 99, true));
        }
    }
}
