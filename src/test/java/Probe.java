import java.util.function.IntSupplier;

/** A hall under test, and what the tests ask of it again and again. */
abstract class Probe {
    protected static final int NONE = PreCommitHall.NONE;
    protected static PreCommitHall h = new PreCommitHall();
    private static String place = "";
    private static int looked = 0;
    private static int wrong = 0;

    protected static void fresh(String name) {
        place = name;
        h = new PreCommitHall();
    }

    protected static void due(long got, long want) {
        same(String.valueOf(got), String.valueOf(want));
    }

    protected static void same(String got, String want) {
        looked++;
        if (!got.equals(want)) {
            wrong++;
            System.out.println(place + ", line " + callerLine() + ": answered " + got + ", due is " + want);
        }
    }

    protected static void fail(String what) {
        wrong++;
        System.out.println(what);
    }

    private static int callerLine() {
        for (StackTraceElement at : Thread.currentThread().getStackTrace()) {
            if (at.getFileName() != null && at.getFileName().endsWith("Test.java")) {
                return at.getLineNumber();
            }
        }
        return 0;
    }

    /** A refused call answers by its code and changes nothing. */
    protected static void refused(IntSupplier call, int code) {
        String was = all();
        due(call.getAsInt(), code);
        same(all(), was);
    }

    /** States as digits, that of site 0 the highest. */
    protected static int states() {
        return digits(0);
    }

    /** Up, down, awake as digits, that of site 0 the highest. */
    protected static int standing() {
        return digits(1);
    }

    /** One thing of each site as digits, that of site 0 the highest. */
    protected static int digits(int what) {
        int digits = 0;
        for (int s = 0; s < h.count(0); s++) {
            digits = digits * 10 + h.site(s, what);
        }
        return digits;
    }

    /** Who knows whom: a set of each site. */
    protected static String known() {
        StringBuilder text = new StringBuilder();
        for (int s = 0; s < h.count(0); s++) {
            text.append(h.site(s, 5)).append(' ');
        }
        return text.toString().trim();
    }

    protected static String line(int line) {
        StringBuilder text = new StringBuilder();
        for (int i = 0; i < h.sign(line, NONE); i++) {
            text.append((char) h.sign(line, i));
        }
        return text.toString();
    }

    protected static String log() {
        StringBuilder text = new StringBuilder();
        for (int i = 0; i < h.lines(); i++) {
            text.append(line(i)).append('/');
        }
        return text.toString();
    }

    /** All that a hall tells of itself. */
    protected static String all() {
        StringBuilder text = new StringBuilder(hallOnly()).append(" tape ").append(h.count(7)).append(" fault");
        for (int what = 0; what < 3; what++) {
            text.append(' ').append(h.fault(what));
        }
        return text.toString();
    }

    /** All but THE TAPE and what fault() tells. */
    protected static String hallOnly() {
        StringBuilder text = new StringBuilder();
        for (int what = 0; what < 7; what++) {
            text.append(h.count(what)).append(' ');
        }
        for (int what = 0; what < 5; what++) {
            text.append(digits(what)).append(' ');
        }
        return text.append(known()).append(' ').append(log()).toString();
    }

    protected static void feedText(String text) {
        for (int at = 0; at < text.length(); at += 20) {
            int[] words = new int[5];
            for (int i = 0; i < 20; i++) {
                words[i / 4] = words[i / 4] << 8 | (at + i < text.length() ? text.charAt(at + i) : 0);
            }
            h.feed(words[0], words[1], words[2], words[3], words[4]);
        }
    }

    protected static int runText(String text) {
        feedText(text);
        return h.script(text.length());
    }

    /** Site 0 is DONE and DOWN, 1 PRE, 2 GONE in a group of its own. */
    protected static void doneDownAndGone() {
        h.begin(3, 0);
        h.ask(NONE);
        h.part(1);
        h.prepare(NONE);
        h.finish(2, NONE);
        h.commit(0);
    }

    /** Site 0 is DONE, 1 PRE, 2 GONE; all are UP, in one group. */
    protected static void doneAndGone() {
        doneDownAndGone();
        h.wake(0);
        h.recover(0);
        h.part(0);
    }

    /** The text has this fault at this place: THE TAPE is empty then, nothing else is changed. */
    protected static void faultOf(String text, int fault, int at) {
        String was = hallOnly();
        due(runText(text), -30 - fault);
        due(h.fault(0), fault);
        due(h.fault(1), at);
        due(h.fault(2), 0);
        due(h.count(7), 0);
        same(hallOnly(), was);
    }

    protected static void end() {
        System.out.println(looked + " answers, " + wrong + " not as due");
        if (wrong != 0) {
            System.exit(1);
        }
    }
}
