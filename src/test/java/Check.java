/** Counts the answers that are not the ones due, and ends a test's main with exit code 1 if there are any. */
final class Check {
    interface Call {
        long answer();
    }

    private int calls = 0;
    private int wrong = 0;
    private String about = "";

    /** What is printed before each wrong answer from now on. */
    void begin(String newAbout) {
        about = newAbout;
    }

    int made() {
        return calls;
    }

    void due(String call, long got, long want) {
        calls++;
        if (got != want) {
            wrong(call + " answered " + got + ", due is " + want);
        }
    }

    void wrong(String what) {
        wrong++;
        System.out.println(about + what);
    }

    void due(String call, boolean got, boolean want) {
        due(call, got ? 1 : 0, want ? 1 : 0);
    }

    void dueText(String call, String got, String want) {
        calls++;
        if (!got.equals(want)) {
            wrong(call + " answered " + got + ", due is " + want);
        }
    }

    void noCell(String name, Call call) {
        dueText(name, told(call), "throws.IndexOutOfBoundsException");
    }

    void noArgument(String name, Call call) {
        dueText(name, told(call), "throws.IllegalArgumentException");
    }

    void noState(String name, Call call) {
        dueText(name, told(call), "throws.IllegalStateException");
    }

    /** The class must be the very one, as the machine's own exceptions lie below it. */
    static String told(Call call) {
        try {
            return Long.toString(call.answer());
        } catch (RuntimeException e) {
            return "throws." + e.getClass().getSimpleName();
        }
    }

    void end(String test) {
        System.out.println(test + ": " + calls + " checks, " + wrong + " wrong");
        if (wrong != 0 || calls == 0) {
            System.exit(1);
        }
    }
}
