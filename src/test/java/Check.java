/** Counts what a test finds, and tells every answer that is not the one that is due. */
final class Check {
    interface Call {
        Object answer();
    }

    private static int right = 0;
    private static int wrong = 0;
    private static String sentence = "";

    private Check() {
    }

    /** The answer of a call as a text: its value, or throws. and the exact class thrown. */
    static String told(Call call) {
        try {
            return String.valueOf(call.answer());
        } catch (RuntimeException e) {
            return "throws." + e.getClass().getSimpleName();
        }
    }

    static void due(String what, Call call, Object want) {
        compare(what, told(call), String.valueOf(want));
    }

    /** The exception must come from a throw of the class itself, not from the library that it uses. */
    static void refused(String what, Call call, Class<? extends RuntimeException> kind) {
        String got;
        try {
            got = String.valueOf(call.answer());
        } catch (RuntimeException e) {
            StackTraceElement[] frames = e.getStackTrace();
            String place = frames.length == 0 ? "nowhere" : frames[0].getClassName();
            got = e.getClass().getSimpleName() + " by " + place;
        }
        compare(what, got, kind.getSimpleName() + " by Wheelpay");
    }

    /** The test of one sentence of the document: what it finds is told with the sentence. */
    static void sentence(String text, Runnable test) {
        int before = right + wrong;
        sentence = text;
        try {
            test.run();
        } catch (RuntimeException e) {
            compare("the test", "throws." + e.getClass().getSimpleName(), "to its end");
        }
        if (right + wrong == before) {
            compare("the test", "nothing compared", "something");
        }
        sentence = "";
    }

    static void compare(String what, String got, String want) {
        if (got.equals(want)) {
            right++;
        } else {
            wrong++;
            String place = sentence.isEmpty() ? "" : "[" + sentence + "] ";
            System.out.println(place + what + " answered " + got + ", due is " + want);
        }
    }

    static void end() {
        System.out.println(right + " answers right, " + wrong + " wrong");
        if (wrong != 0 || right == 0) {
            System.exit(1);
        }
    }
}
