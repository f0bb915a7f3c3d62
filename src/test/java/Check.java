import java.util.concurrent.Callable;

/** Counts and prints the answers that are not the ones that are due. */
final class Check {
    private final String name;
    private int asked;
    private int wrong;

    Check(String name) {
        this.name = name;
    }

    void same(String call, Object got, Object due) {
        asked++;
        if (!due.equals(got)) {
            wrong++;
            System.out.println(name + "." + test() + ": " + call + " answered " + got + ", due is " + due);
        }
    }

    /** The method that main called: in the tests of the boundary cases it stands for one sentence. */
    private static String test() {
        String below = "";
        for (StackTraceElement frame : new Throwable().getStackTrace()) {
            if (frame.getMethodName().equals("main")) {
                break;
            }
            below = frame.getMethodName();
        }
        return below;
    }

    /** The very class is due: what the machine throws is often a class below the one the document names. */
    void throwing(String call, Class<? extends RuntimeException> due, Callable<?> body) {
        Object got;
        try {
            got = "the answer " + body.call();
        } catch (Exception e) {
            got = e.getClass();
        }
        same(call, got, due);
    }

    /** Prints how it went, and ends the program with exit code 1 if an answer was wrong. */
    void end() {
        System.out.println(name + ": " + asked + " answers, " + wrong + " wrong");
        if (wrong > 0) {
            System.exit(1);
        }
    }
}
