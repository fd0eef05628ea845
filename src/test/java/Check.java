/** Counts and prints the answers that are not due; each test ends with end(). */
final class Check {
    private static int answers = 0;
    private static int wrong = 0;

    private Check() {
    }

    static void due(String call, long got, long want) {
        answers++;
        if (got != want) {
            wrong++;
            System.out.println(call + " answered " + got + ", due is " + want);
        }
    }

    static void due(String call, boolean got, boolean want) {
        due(call, got ? 1 : 0, want ? 1 : 0);
    }

    /**
     * Asks for the very class, thrown by a statement of Obligary itself: what the machine or the library throws is a
     * subclass, or comes from elsewhere.
     */
    static void thrown(Class<? extends RuntimeException> want, String call, Runnable run) {
        answers++;
        Class<?> got = null;
        try {
            run.run();
        } catch (RuntimeException e) {
            StackTraceElement[] trace = e.getStackTrace();
            boolean isOwn = trace.length > 0 && trace[0].getClassName().startsWith("Obligary");
            got = isOwn ? e.getClass() : RuntimeException.class;
            if (!isOwn) {
                e.printStackTrace(System.out);
            }
        }
        if (got != want) {
            wrong++;
            System.out.println(call + " threw " + got + ", due is " + want);
        }
    }

    static void end() {
        System.out.println(answers + " answers, " + wrong + " of them not due");
        if (wrong != 0 || answers == 0) {
            System.exit(1);
        }
    }
}
