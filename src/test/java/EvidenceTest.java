import java.util.NoSuchElementException;

/** Promises 22 and 23: isCovered, lasts. */
final class EvidenceTest {
    private static final Class<IndexOutOfBoundsException> INDEX = IndexOutOfBoundsException.class;
    private static final Class<NoSuchElementException> MISSING = NoSuchElementException.class;
    private static final int EVERY = Given.EVERY, SKIP = Given.SKIP;
    private static final int LOWEST = Integer.MIN_VALUE, HIGHEST = Integer.MAX_VALUE;

    public static void main(String[] args) {
        coveredForItsDays();
        notCoveredBefore();
        coveredOnTheFirstAndLastDays();
        coveredOfOtherRules();
        noRuleToCover();
        noDayToCover();
        lasts();
        lapsed();
        lastsBeyondTheCalendar();
        noRuleToLast();
        neverFinished();
        lastsIndexFirst();
        Check.end();
    }

    private static Obligary withValidity(int validity) {
        Obligary o = new Obligary();
        o.addRule(EVERY, 1, SKIP, 0, 1, validity);
        return o;
    }

    /** Asks for the days around both ends of the evidence, and for the ends of the calendar. */
    private static void covered(Obligary o, int rule, int from, int to) {
        int[] days = {0, 1, from - 1, from, from + 1, to - 1, to, to + 1, to + 2, 718, 719};
        for (int day : days) {
            if (day >= 0 && day < 720) {
                Check.due("isCovered(" + rule + ", " + day + ")", o.isCovered(rule, day), day >= from && day <= to);
            }
        }
    }

    private static void coveredForItsDays() {
        Check.sentence("Promise 22: Returns whether a rule has evidence for a day");
        for (int validity : new int[] {0, 1, 8, 98, 99}) {
            Obligary o = withValidity(validity);
            Given.passTo(o, 30);
            o.finish(0);
            covered(o, 0, 30, 30 + validity);
            Given.passTo(o, 300);
            covered(o, 0, 30, 30 + validity);
            o.finish(0);
            covered(o, 0, 300, 300 + validity);
            Check.due("isCovered(0, 30), replaced", o.isCovered(0, 30), false);
        }
    }

    private static void notCoveredBefore() {
        Check.sentence("Promise 22: no evidence before a duty is finished");
        Obligary o = withValidity(99);
        for (int day = 0; day < 720; day += 2) {
            Check.due("isCovered(0, " + day + ")", o.isCovered(0, day), false);
        }
        Given.passTo(o, 50);
        Check.due("isCovered(0, 50)", o.isCovered(0, 50), false);
    }

    private static void coveredOnTheFirstAndLastDays() {
        Check.sentence("Promise 22: a day: from 0 to 719");
        Obligary first = withValidity(0);
        first.finish(0);
        covered(first, 0, 0, 0);
        Obligary last = withValidity(0);
        Given.passTo(last, 719);
        last.finish(0);
        covered(last, 0, 719, 719);
        Obligary beyond = withValidity(99);
        Given.passTo(beyond, 700);
        beyond.finish(0);
        covered(beyond, 0, 700, 719);
        Obligary exact = withValidity(19);
        Given.passTo(exact, 700);
        exact.finish(0);
        covered(exact, 0, 700, 719);
        Obligary less = withValidity(18);
        Given.passTo(less, 700);
        less.finish(0);
        covered(less, 0, 700, 718);
    }

    private static void coveredOfOtherRules() {
        Check.sentence("Promise 22: whether a rule has evidence: that rule, no other one");
        Obligary o = Given.daily(8);
        o.finish(3);
        for (int rule = 0; rule < 8; rule++) {
            Check.due("isCovered(" + rule + ", 0)", o.isCovered(rule, 0), rule == 3);
        }
    }

    private static void noRuleToCover() {
        Check.sentence("Promise 22: Throws IndexOutOfBoundsException if there is no such rule");
        for (int count : new int[] {0, 1, 8}) {
            Obligary o = Given.daily(count);
            for (int bad : new int[] {-1, count, 8, LOWEST, HIGHEST}) {
                for (int day : new int[] {0, 719, 720}) {
                    Check.thrown(INDEX, "isCovered(" + bad + ", " + day + ")", () -> o.isCovered(bad, day));
                }
            }
        }
    }

    private static void noDayToCover() {
        Check.sentence("Promise 22: Throws IndexOutOfBoundsException if there is no such .. day");
        Obligary o = withValidity(99);
        o.addRule(EVERY, 1, SKIP, 0, 1, 99);
        Given.passTo(o, 719);
        o.finish(0);
        for (int bad : new int[] {-1, 720, 721, 818, LOWEST, HIGHEST}) {
            Check.thrown(INDEX, "isCovered(0, " + bad + ") with evidence", () -> o.isCovered(0, bad));
            Check.thrown(INDEX, "isCovered(1, " + bad + ") without evidence", () -> o.isCovered(1, bad));
        }
    }

    private static void lasts() {
        Check.sentence("Promise 23: the last day for which it has evidence, less today");
        for (int validity : new int[] {0, 1, 8, 99}) {
            Obligary o = withValidity(validity);
            Given.passTo(o, 3);
            o.finish(0);
            for (int left = validity; left >= 0; left--) {
                Check.due("lasts(0) with validity " + validity, o.lasts(0), left);
                o.pass(1);
            }
            o.finish(0);
            Check.due("lasts(0), replaced", o.lasts(0), validity);
        }
    }

    private static void lapsed() {
        Check.sentence("Promise 23: below 0 if it has lapsed");
        Obligary o = withValidity(8);
        o.finish(0);
        Given.passTo(o, 8);
        Check.due("lasts(0) on its last day", o.lasts(0), 0);
        o.pass(1);
        Check.due("lasts(0) on the day after", o.lasts(0), -1);
        Given.passTo(o, 719);
        Check.due("lasts(0) on the last day of all", o.lasts(0), -711);
        Obligary none = withValidity(0);
        none.finish(0);
        none.pass(1);
        Check.due("lasts(0) of validity 0 on the day after", none.lasts(0), -1);
    }

    private static void lastsBeyondTheCalendar() {
        Check.sentence("Promise 23: the last day for which it has evidence: today and its validity, together");
        Obligary o = withValidity(99);
        Given.passTo(o, 700);
        o.finish(0);
        Check.due("lasts(0) on day 700", o.lasts(0), 99);
        o.pass(19);
        Check.due("lasts(0) on day 719", o.lasts(0), 80);
        o.finish(0);
        Check.due("lasts(0) on day 719, replaced", o.lasts(0), 99);
    }

    private static void noRuleToLast() {
        Check.sentence("Promise 23: Throws IndexOutOfBoundsException if there is no such rule");
        for (int count : new int[] {0, 1, 8}) {
            Obligary o = Given.daily(count);
            for (int bad : new int[] {-1, count, 8, LOWEST, HIGHEST}) {
                Check.thrown(INDEX, "lasts(" + bad + ")", () -> o.lasts(bad));
            }
        }
    }

    private static void neverFinished() {
        Check.sentence("Promise 23: Throws java.util.NoSuchElementException if no duty of it was ever finished");
        Obligary o = Given.daily(2);
        o.addRule(EVERY, 7, SKIP, 5, 1, 0);
        o.finish(1);
        Check.thrown(MISSING, "lasts(0), another one was finished", () -> o.lasts(0));
        Check.thrown(MISSING, "lasts(2) without duties", () -> o.lasts(2));
        Given.passTo(o, 100);
        Check.thrown(MISSING, "lasts(0) on a later day", () -> o.lasts(0));
        Check.due("lasts(1), lapsed long ago", o.lasts(1), -100);
        o.holiday(0);
        Check.due("lasts(1), ever", o.lasts(1), -100);
        o.finish(0);
        Check.due("lasts(0), finished", o.lasts(0), 0);
    }

    private static void lastsIndexFirst() {
        Check.sentence("Promise 23: throws IndexOutOfBoundsException, NoSuchElementException, in this order");
        Obligary o = Given.daily(2);
        for (int bad : new int[] {-1, 2, 8, LOWEST, HIGHEST}) {
            Check.thrown(INDEX, "lasts(" + bad + "), when none is finished", () -> o.lasts(bad));
        }
        Check.thrown(MISSING, "lasts(1)", () -> o.lasts(1));
    }
}
