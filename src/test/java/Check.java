import java.util.NoSuchElementException;

/** What the tests share: comparing answers, naming exceptions, feeding a text. */
final class Check {
    private static int wrong;
    private static int made;
    private static String about = "";
    private static final int MOST_SECONDS = 300;

    // A call that doesn't end is a fault too: the test that makes it fails then.
    static {
        Thread guard = new Thread(Check::endTooLong);
        guard.setDaemon(true);
        guard.start();
    }

    private Check() {
    }

    private static void endTooLong() {
        try {
            Thread.sleep(MOST_SECONDS * 1000L);
        } catch (InterruptedException e) {
            return;
        }
        System.out.println(about + "no end after " + MOST_SECONDS + " seconds");
        Runtime.getRuntime().halt(1);
    }

    interface Call {
        long answer();
    }

    /** What stands ahead of each answer that is told not to be as due. */
    static void about(String words) {
        about = words;
    }

    static int made() {
        return made;
    }

    static void failed(String what) {
        wrong++;
        System.out.println(about + what);
    }

    static void due(String call, long got, long want) {
        made++;
        if (got != want) {
            failed(call + " answered " + got + ", due is " + want);
        }
    }

    static void due(String call, boolean got, boolean want) {
        due(call, got ? 1 : 0, want ? 1 : 0);
    }

    static void noSuch(String call, Call made) {
        thrown(call, made, NoSuchElementException.class);
    }

    static void illegal(String call, Call made) {
        thrown(call, made, IllegalArgumentException.class);
    }

    private static void thrown(String call, Call tried, Class<?> want) {
        made++;
        String got;
        try {
            got = "answered " + tried.answer();
        } catch (RuntimeException e) {
            got = e.getClass() == want ? "" : "threw " + e.getClass();
        }
        if (!got.isEmpty()) {
            failed(call + " " + got + ", due is " + want);
        }
    }

    /** The text on the tape, with blanks behind it up to whole twenties. */
    static void feed(PoundsOver x, String text) {
        byte[] bytes = new byte[(text.length() + 19) / 20 * 20];
        java.util.Arrays.fill(bytes, (byte) ' ');
        for (int i = 0; i < text.length(); i++) {
            bytes[i] = (byte) text.charAt(i);
        }
        for (int i = 0; i < bytes.length; i += 20) {
            x.feed(four(bytes, i), four(bytes, i + 4), four(bytes, i + 8), four(bytes, i + 12), four(bytes, i + 16));
        }
    }

    static int four(byte[] bytes, int i) {
        return (bytes[i] & 255) << 24 | (bytes[i + 1] & 255) << 16 | (bytes[i + 2] & 255) << 8 | bytes[i + 3] & 255;
    }

    /** What hall() answers to a text that is fed now. */
    static int hall(PoundsOver x, String text) {
        feed(x, text);
        return x.hall(text.length());
    }

    /** A new object with a HALL that has no FAULT. */
    static PoundsOver told(String text) {
        PoundsOver x = new PoundsOver();
        due("hall of " + text, hall(x, text), 0);
        due("fault() of " + text, x.fault(), -1);
        return x;
    }

    /** The FAULT of a text and its place. */
    static void fault(String text, int kind, int place) {
        PoundsOver x = new PoundsOver();
        due("hall of " + text, hall(x, text), kind);
        due("fault() of " + text, x.fault(), place);
        due("count(10) of " + text, x.count(10), 1);
    }

    /** The FAULT of a text in which ^ stands ahead of the place where it is. */
    static void fault(int kind, String marked) {
        int place = marked.indexOf('^');
        fault(marked.substring(0, place) + marked.substring(place + 1), kind, place);
    }

    static void end() {
        System.out.println(made + " answers looked at, " + wrong + " of them not as due");
        if (wrong != 0 || made == 0) {
            System.exit(1);
        }
    }
}
