import java.util.NoSuchElementException;

/** Promises 22 and 23: isCovered, lasts. */
final class EvidenceTest {
    private static final Class<IndexOutOfBoundsException> INDEX = IndexOutOfBoundsException.class;
    private static final Class<NoSuchElementException> MISSING = NoSuchElementException.class;

    public static void main(String[] args) {
        covers();
        isReplaced();
        lastsBeyondTheCalendar();
        wrongArguments();
        Check.end();
    }

    private static void covered(Obligary o, int rule, int from, int to) {
        for (int day = 0; day < 720; day++) {
            boolean want = day >= from && day <= to;
            Check.due("isCovered(" + rule + ", " + day + ")", o.isCovered(rule, day), want);
        }
    }

    private static void covers() {
        Obligary o = new Obligary();
        o.addRule(Obligary.EVERY, 10, Obligary.SKIP, 0, 1, 8);
        o.addRule(Obligary.EVERY, 10, Obligary.SKIP, 0, 1, 0);
        covered(o, 0, 720, 720);
        Check.thrown(MISSING, "lasts(0) before any duty is finished", () -> o.lasts(0));
        o.pass(3);
        o.finish(0);
        covered(o, 0, 3, 11);
        covered(o, 1, 720, 720);
        Check.thrown(MISSING, "lasts(1) of another rule", () -> o.lasts(1));
        Check.due("lasts(0)", o.lasts(0), 8);
        o.finish(1);
        covered(o, 1, 3, 3);
        Check.due("lasts(1), today alone", o.lasts(1), 0);
        o.pass(8);
        Check.due("lasts(0) on its last day", o.lasts(0), 0);
        o.pass(1);
        Check.due("lasts(0), lapsed", o.lasts(0), -1);
        Check.due("lasts(1), lapsed", o.lasts(1), -9);
        covered(o, 0, 3, 11);
    }

    private static void isReplaced() {
        Obligary o = new Obligary();
        o.addRule(Obligary.EVERY, 10, Obligary.SKIP, 0, 1, 20);
        o.finish(0);
        covered(o, 0, 0, 20);
        o.pass(10);
        o.finish(0);
        covered(o, 0, 10, 30);
        Check.due("lasts(0)", o.lasts(0), 20);
        o.setShift(0, Obligary.FOLLOWING);
        o.holiday(10);
        covered(o, 0, 10, 30);
    }

    private static void lastsBeyondTheCalendar() {
        Obligary o = new Obligary();
        o.addRule(Obligary.EVERY, 60, Obligary.SKIP, 0, 1, 99);
        for (int i = 0; i < 7; i++) {
            o.pass(100);
        }
        o.finish(0);
        covered(o, 0, 700, 719);
        Check.due("lasts(0) beyond the calendar", o.lasts(0), 99);
        o.pass(19);
        Check.due("lasts(0) on day 719", o.lasts(0), 80);
    }

    private static void wrongArguments() {
        Obligary o = new Obligary();
        o.addRule(Obligary.EVERY, 1, Obligary.SKIP, 0, 1, 0);
        for (int bad : new int[] {-1, 1, 8, Integer.MIN_VALUE, Integer.MAX_VALUE}) {
            Check.thrown(INDEX, "isCovered(" + bad + ", 0)", () -> o.isCovered(bad, 0));
            Check.thrown(INDEX, "lasts(" + bad + ")", () -> o.lasts(bad));
        }
        for (int bad : new int[] {-1, 720, Integer.MIN_VALUE, Integer.MAX_VALUE}) {
            Check.thrown(INDEX, "isCovered(0, " + bad + ")", () -> o.isCovered(0, bad));
        }
    }
}
