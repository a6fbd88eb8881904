/** What the project's tests share: calls whose answer or refusal is compared with what is due. */
final class Check {
    interface Call {
        Object answer();
    }

    interface Deed {
        void carryOut();
    }

    /** A fault can spoil thousands of answers; the first ones are enough to find it. */
    private static final int MOST_TOLD = 50;

    private static int wrong = 0;
    private static String promise = "";

    private Check() {
    }

    static void promise(String name) {
        promise = name;
    }

    static void answers(Object due, Call call) {
        compare(String.valueOf(due), outcome(call));
    }

    static void done(Deed deed) {
        compare("done", outcome(deed));
    }

    static void refuses(Class<? extends RuntimeException> due, Call call) {
        compare("throws." + due.getSimpleName(), outcome(call));
    }

    static void refusesDeed(Class<? extends RuntimeException> due, Deed deed) {
        compare("throws." + due.getSimpleName(), outcome(deed));
    }

    static String outcome(Deed deed) {
        return outcome(() -> {
            deed.carryOut();
            return "done";
        });
    }

    /** The exception's own class is told: the machine's ArrayIndexOutOfBoundsException is not the one that is due. */
    static String outcome(Call call) {
        try {
            return String.valueOf(call.answer());
        } catch (RuntimeException thrown) {
            boolean byMachine = "/ by zero".equals(thrown.getMessage());
            return (byMachine ? "machine." : "throws.") + thrown.getClass().getSimpleName();
        }
    }

    static void compare(String due, String got) {
        if (!due.equals(got)) {
            wrong++;
        }
        if (!due.equals(got) && wrong <= MOST_TOLD) {
            System.out.println(promise + ": answered " + got + ", due is " + due + lineOfTest());
        }
    }

    static void end() {
        System.out.println(wrong == 0 ? "all answers are as due" : wrong + " answers are not as due");
        if (wrong != 0) {
            System.exit(1);
        }
    }

    private static String lineOfTest() {
        for (StackTraceElement frame : new Throwable().getStackTrace()) {
            if (!frame.getClassName().startsWith("Check")) {
                return " (" + frame.getFileName() + ":" + frame.getLineNumber() + ")";
            }
        }
        return "";
    }
}
