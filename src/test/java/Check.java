/** Counts and prints the answers that are not due; each test ends with end(). A test that does not end fails. */
final class Check {
    private static final int MINUTES = 5;

    static {
        Thread watch = new Thread(Check::failAfterMinutes);
        watch.setDaemon(true);
        watch.start();
    }

    private static int answers = 0;
    private static int wrong = 0;
    private static int sentences = 0;
    private static String sentence = "";

    private Check() {
    }

    /** Names the sentence of the document that the calls after it are held to. */
    static void sentence(String words) {
        sentence = words;
        sentences++;
    }

    static void due(String call, long got, long want) {
        answers++;
        if (got != want) {
            wrong(call + " answered " + got + ", due is " + want);
        }
    }

    static void due(String call, boolean got, boolean want) {
        due(call, got ? 1 : 0, want ? 1 : 0);
    }

    /** All due days of a rule, asked for in each way; for lists of up to 150 days, as an object has 512 calls. */
    static void dueDays(String what, Obligary o, int rule, int... days) {
        due(what + ": duties(" + rule + ")", o.duties(rule), days.length);
        int from = 0;
        for (int duty = 0; duty <= days.length; duty++) {
            int want = duty < days.length ? days[duty] : Obligary.NONE;
            due(what + ": dueDay(" + rule + ", " + duty + ")", o.dueDay(rule, duty), want);
            if (from < 720) {
                due(what + ": nextDue(" + rule + ", " + from + ")", o.nextDue(rule, from), want);
                due(what + ": nextDueByWalking(" + rule + ", " + from + ")", o.nextDueByWalking(rule, from), want);
            }
            from = want + 1;
        }
    }

    /**
     * Asks for the very class, thrown by a statement of Obligary itself: what the machine or the library throws is a
     * subclass, or comes from elsewhere. With null it asks that nothing is thrown.
     */
    static void thrown(Class<? extends RuntimeException> want, String call, Runnable run) {
        answers++;
        Class<?> got = null;
        try {
            run.run();
        } catch (RuntimeException e) {
            StackTraceElement[] trace = e.getStackTrace();
            boolean isOwn = trace.length > 0 && trace[0].getClassName().startsWith("Obligary");
            got = isOwn ? e.getClass() : RuntimeException.class;
            if (!isOwn) {
                e.printStackTrace(System.out);
            }
        }
        if (got != want) {
            wrong(call + " threw " + got + ", due is " + want);
        }
    }

    private static void wrong(String what) {
        wrong++;
        System.out.println(sentence.isEmpty() ? what : sentence + ": " + what);
    }

    private static void failAfterMinutes() {
        try {
            Thread.sleep(MINUTES * 60_000L);
        } catch (InterruptedException e) {
            return;
        }
        System.out.println(sentence + ": a call does not end");
        System.out.flush();
        Runtime.getRuntime().halt(1);
    }

    static void end() {
        System.out.println(sentences + " sentences, " + answers + " answers, " + wrong + " of them not due");
        if (wrong != 0 || answers == 0) {
            System.exit(1);
        }
    }
}
