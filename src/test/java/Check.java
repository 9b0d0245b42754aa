/** Counts what was as due and what was not, and says what was not. */
final class Check {
    private int passed;
    private int failed;
    private String subject = "";

    void subject(String name) {
        subject = name;
    }

    void equal(String what, long got, long due) {
        that(what + " answered " + got + ", due is " + due, got == due);
    }

    void that(String what, boolean holds) {
        if (holds) {
            passed++;
            return;
        }
        failed++;
        System.out.println(subject + ": " + what);
    }

    void refuses(String what, Runnable call) {
        boolean refused = false;
        try {
            call.run();
        } catch (IllegalArgumentException e) {
            refused = true;
        }
        that(what + " does not throw IllegalArgumentException", refused);
    }

    int failed() {
        return failed;
    }

    /** The closing line. */
    String sum() {
        return passed + " passed, " + failed + " failed";
    }
}
