import java.util.Map;
import java.util.TreeMap;

/** Long runs of drawn calls, each answer compared with the one of Model; at most 512 calls an object. */
public final class RunsTest {
    private static final String[] NAMES = {
        "setRates", "start", "book", "cancel", "board", "leave", "drive", "finish", "aboard", "charge",
        "isVoid", "dispute", "settle", "openDisputes", "closeWeek", "week", "earnings", "topUp", "bonus",
        "pay", "balance", "paid", "spent", "house", "averageCharge"};
    private static final int[] EDGES = {
        Integer.MIN_VALUE, -1, 0, 1, 4, 5, 9, 10, 19, 20, 21, 39, 40, 100, 101, 120, 121, 1000, 1001,
        Integer.MAX_VALUE};
    /** How often each call is drawn, by kind of run. */
    private static final int[][] WEIGHTS = {
        {2, 8, 8, 5, 12, 5, 12, 8, 2, 2, 3, 8, 8, 1, 2, 1, 2, 2, 2, 2, 3, 2, 2, 3, 2},
        {1, 30, 2, 1, 4, 1, 4, 30, 1, 1, 1, 8, 8, 1, 2, 1, 1, 2, 5, 2, 2, 1, 1, 3, 1},
        {1, 6, 1, 1, 10, 1, 10, 8, 1, 1, 6, 14, 14, 1, 7, 1, 1, 2, 3, 3, 6, 3, 2, 4, 2},
        {4, 3, 20, 14, 20, 14, 20, 1, 4, 4, 1, 1, 1, 1, 1, 1, 1, 1, 1, 1, 1, 1, 1, 1, 1},
        {1, 4, 1, 1, 4, 1, 4, 6, 1, 1, 1, 2, 2, 1, 25, 3, 1, 1, 1, 2, 4, 2, 1, 1, 1}};
    private static final int RUNS = 4000;
    private static final int CALLS = 512;

    private static long seed;

    private RunsTest() {
    }

    public static void main(String[] args) {
        Map<String, Integer> answers = new TreeMap<>();
        for (int run = 0; run < RUNS; run++) {
            seed = 88172645463325252L + run * 7919L;
            play(run, answers);
        }
        everyAnswerWasSeen(answers);
        Check.end();
    }

    /** The tests draw by a generator of their own, so that each run of them is the same. */
    private static int draw(int bound) {
        seed ^= seed << 13;
        seed ^= seed >>> 7;
        seed ^= seed << 17;
        return (int) Long.remainderUnsigned(seed, bound);
    }

    private static void play(int run, Map<String, Integer> answers) {
        Wheelpay x = new Wheelpay();
        Model model = new Model();
        StringBuilder log = new StringBuilder();
        int rides = 0;
        for (int i = 0; i < CALLS; i++) {
            String name = drawName(WEIGHTS[run % WEIGHTS.length]);
            int a = drawFirst(name, rides);
            int b = drawSecond(name, run);
            int c = name.equals("settle") ? drawPercentage() : drawOne(1, 120);
            boolean d = draw(3) != 0;
            String want = Check.told(() -> model.answer(name, a, b, c, d));
            String got = Check.told(() -> answer(x, name, a, b, c, d));
            log.append(name).append(' ').append(a).append(' ').append(b).append(' ').append(c)
                .append(' ').append(d).append(" -> ").append(want).append('\n');
            Check.compare("run " + run + ", call " + i + ", " + name, got, want);
            if (!got.equals(want)) {
                System.out.println(log);
                Check.end();
            }
            answers.merge(name + (want.startsWith("throws.") ? " " + want : ""), 1, Integer::sum);
            if (name.equals("start") && !want.startsWith("throws.")) {
                rides++;
            }
        }
    }

    private static String drawName(int[] weights) {
        int all = 0;
        for (int weight : weights) {
            all += weight;
        }
        int left = draw(all);
        int at = 0;
        while (left >= weights[at]) {
            left -= weights[at];
            at++;
        }
        return NAMES[at];
    }

    private static int drawOne(int least, int most) {
        int kind = draw(40);
        if (kind == 0) {
            return EDGES[draw(EDGES.length)];
        }
        if (kind == 1) {
            return draw(2) == 0 ? least : most;
        }
        return least + draw(most - least + 1);
    }

    private static int drawPercentage() {
        return draw(2) == 0 ? 100 : drawOne(0, 100);
    }

    private static int drawFirst(String name, int rides) {
        switch (name) {
            case "setRates":
                return drawOne(0, draw(2) == 0 ? 3 : 1000);
            case "start": case "earnings": case "topUp": case "bonus": case "pay": case "balance": case "paid":
                return drawOne(0, draw(2) == 0 ? 1 : 4);
            case "spent": case "averageCharge":
                return drawOne(0, 9);
            default:
                // The newest rides are asked for most, as they are the ones under way.
                return draw(3) == 0 ? drawOne(0, Math.max(0, rides - 1)) : drawOne(Math.max(0, rides - 4),
                    Math.max(0, rides - 1));
        }
    }

    private static int drawSecond(String name, int run) {
        switch (name) {
            case "setRates":
                return drawOne(0, draw(2) == 0 ? 3 : 1000);
            case "drive":
                return drawOne(0, draw(2) == 0 ? 5 : 100);
            case "earnings": case "topUp": case "bonus": case "pay":
                return drawOne(0, 3);
            default:
                return drawOne(0, run % 3 == 0 ? 2 : 9);
        }
    }

    private static Object answer(Wheelpay x, String name, int a, int b, int c, boolean d) {
        switch (name) {
            case "setRates":
                x.setRates(a, b);
                return "nothing";
            case "start": return x.start(a);
            case "book": return x.book(a, b);
            case "cancel": return x.cancel(a, b);
            case "board": return x.board(a, b);
            case "leave": return x.leave(a, b);
            case "drive": return x.drive(a, b, c);
            case "finish": return x.finish(a);
            case "aboard": return x.aboard(a);
            case "charge": return x.charge(a, b);
            case "isVoid": return x.isVoid(a);
            case "dispute": return x.dispute(a, b);
            case "settle": return x.settle(a, b, c, d);
            case "openDisputes": return x.openDisputes();
            case "closeWeek": return x.closeWeek();
            case "week": return x.week();
            case "earnings": return x.earnings(a, b);
            case "topUp": return x.topUp(a, b);
            case "bonus": return x.bonus(a, b);
            case "pay": return x.pay(a, b);
            case "balance": return x.balance(a);
            case "paid": return x.paid(a);
            case "spent": return x.spent(a);
            case "house": return x.house();
            case "averageCharge": return x.averageCharge(a);
            default: throw new UnsupportedOperationException(name);
        }
    }

    /** Runs that never meet an answer or an exception of a call would compare nothing there. */
    private static void everyAnswerWasSeen(Map<String, Integer> answers) {
        for (String name : NAMES) {
            Check.compare(name + " answered", "" + (answers.getOrDefault(name, 0) > 500), "true");
        }
        String[] thrown = {
            "start", "book", "cancel", "board", "leave", "drive", "finish", "dispute", "settle", "closeWeek",
            "averageCharge"};
        for (String name : thrown) {
            int count = answers.getOrDefault(name + " throws.IllegalStateException", 0);
            Check.compare(name + " was not possible", "" + (count > 500), "true");
        }
        for (String name : new String[] {"setRates", "drive", "settle", "earnings", "topUp", "bonus", "pay"}) {
            int count = answers.getOrDefault(name + " throws.IllegalArgumentException", 0);
            Check.compare(name + " was out of range", "" + (count > 100), "true");
        }
    }
}
