/** Counts the checks of a test program and tells where one went wrong. */
final class Check {
    interface Call {
        Object answer();
    }

    private static int passed = 0;
    private static int failed = 0;
    private static String subject = "";

    private Check() {
    }

    static void answers(int promise, Object due, Call call) {
        note("promise " + promise, String.valueOf(due), outcome(call));
    }

    /** The class must be the very one that is due: what the machine throws is a class below it. */
    static void refuses(int promise, Class<? extends RuntimeException> due, Call call) {
        note("promise " + promise, "throws " + due.getName(), outcome(call));
    }

    /** What the checks without a promise are about. */
    static void about(String text) {
        subject = text;
    }

    static void answers(Object due, Call call) {
        note(subject, String.valueOf(due), outcome(call));
    }

    static void refuses(Class<? extends RuntimeException> due, Call call) {
        note(subject, "throws " + due.getName(), outcome(call));
    }

    static int made() {
        return passed + failed;
    }

    static int wrong() {
        return failed;
    }

    static String outcome(Call call) {
        try {
            return String.valueOf(call.answer());
        } catch (RuntimeException e) {
            return "throws " + e.getClass().getName();
        }
    }

    private static void note(String checked, String due, String got) {
        if (due.equals(got)) {
            passed++;
            return;
        }
        failed++;
        StackTraceElement place = placeOfTest();
        System.out.println(place.getFileName() + ":" + place.getLineNumber() + " " + checked
                + ": the answer is " + got + ", due is " + due);
    }

    /** The first place outside the helpers. */
    private static StackTraceElement placeOfTest() {
        StackTraceElement[] places = new Throwable().getStackTrace();
        int index = 0;
        while (index < places.length - 1
                && (places[index].getClassName().equals("Check") || places[index].getClassName().equals("Boundaries"))) {
            index++;
        }
        return places[index];
    }

    static void finish() {
        System.out.println("checks: " + passed + " as due, " + failed + " not");
        if (failed > 0 || passed == 0) {
            System.exit(1);
        }
    }

    static String line(PrefixCodeIndex x, int length) {
        StringBuilder text = new StringBuilder();
        for (int i = 0; i < length; i++) {
            text.append(x.lineChar(i));
        }
        return text.toString();
    }

    static String entry(PrefixCodeIndex x, int id) {
        return line(x, x.formatEntry(id));
    }

    static String results(PrefixCodeIndex x, int digits, int value) {
        return line(x, x.formatResults(digits, value));
    }

    static void type(PrefixCodeIndex x, String text) {
        for (int i = 0; i < text.length(); i++) {
            x.append(text.charAt(i));
        }
    }

    static int run(PrefixCodeIndex x, String text) {
        type(x, text);
        return x.run();
    }
}
