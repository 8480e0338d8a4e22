/** Counts the answers that are not due, and ends the program with exit code 1 if there was one. */
final class Check {
    private int wrong = 0;

    void same(String what, Object got, Object due) {
        if (!due.equals(got)) {
            wrong++;
            System.out.println(what + " answered " + got + ", due is " + due);
        }
    }

    /** The call has to throw exactly that exception (no subclass of it), and to change nothing. */
    void refused(String what, Class<?> due, Sharedair air, Runnable call) {
        long before = air.digest();
        Class<?> got = null;
        try {
            call.run();
        } catch (RuntimeException e) {
            got = e.getClass();
        }
        same(what + " throws", got, due);
        same("digest() after the refused " + what, air.digest(), before);
    }

    void end() {
        if (wrong != 0) {
            System.out.println(wrong + " answers are not as due");
            System.exit(1);
        }
    }
}
