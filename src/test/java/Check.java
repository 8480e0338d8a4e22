import java.util.function.Consumer;

/** Counts the answers that are not due, and ends the program with exit code 1 if there was one. */
final class Check {
    private int wrong = 0;

    void same(String what, Object got, Object due) {
        if (!due.equals(got)) {
            wrong++;
            System.out.println(what + " answered " + got + ", due is " + due);
        }
    }

    /** The call has to throw exactly that exception (no subclass of it), and to change nothing. */
    void refused(String what, Class<?> due, Sharedair air, Runnable call) {
        long before = air.digest();
        same(what + " throws", thrownBy(call), due);
        same("digest() after the refused " + what, air.digest(), before);
    }

    /** As refused(), on a new object made ready for it; it answers as before, and later as one without that call. */
    void refusedOn(Consumer<Sharedair> ready, String what, Class<?> due, Consumer<Sharedair> call) {
        Sharedair air = new Sharedair();
        Sharedair twin = new Sharedair();
        ready.accept(air);
        ready.accept(twin);
        String before = Answers.of(air);
        same(what + " throws", thrownBy(() -> call.accept(air)), due);
        same("what is answered after the refused " + what, Answers.of(air), before);
        same("what is answered later after the refused " + what, Answers.later(air), Answers.later(twin));
    }

    private static Object thrownBy(Runnable call) {
        try {
            call.run();
        } catch (RuntimeException e) {
            return e.getClass();
        }
        return "nothing";
    }

    void end() {
        if (wrong != 0) {
            System.out.println(wrong + " answers are not as due");
            System.exit(1);
        }
    }
}
