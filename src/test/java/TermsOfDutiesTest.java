import java.util.NoSuchElementException;

/** What the document's section "Terms" says of duties, requirements and evidence, sentence by sentence. */
final class TermsOfDutiesTest {
    private static final Class<IllegalStateException> STATE = IllegalStateException.class;
    private static final Class<NoSuchElementException> MISSING = NoSuchElementException.class;
    private static final int EVERY = Given.EVERY, MONTHLY = Given.MONTHLY;
    private static final int FOLLOWING = Given.FOLLOWING, PRECEDING = Given.PRECEDING, SKIP = Given.SKIP;
    private static final int NONE = Obligary.NONE;

    public static void main(String[] args) {
        dueOnItsDueDay();
        finishedInOrder();
        finishedStays();
        finishedAboveTheDueDays();
        openIsTheFirstNotFinished();
        noOpenDuty();
        requiresDirectly();
        neverItself();
        neverItselfOverOthers();
        chainsInAnyOrder();
        twoWaysAreNoCircle();
        blockedOnTheSameDay();
        blockedByEarlier();
        notBlockedByLater();
        notBlockedWithoutOpenDuty();
        notBlockedOverOthers();
        blockedByTheOpenDutyAlone();
        blockedAsDueDaysAre();
        evidenceFromTodayBothWith();
        evidenceOfValidity0();
        evidenceTakesThePlace();
        evidenceStaysWhenDueDaysChange();
        Check.end();
    }

    private static void dueOnItsDueDay() {
        Check.sentence("The duty k of a rule is due on its due day k");
        Obligary o = Given.rule(EVERY, 7, FOLLOWING, 5);
        int[] due = {7, 14, 21};
        for (int duty = 0; duty < due.length; duty++) {
            Check.due("dueDay(0, " + duty + ")", o.dueDay(0, duty), due[duty]);
            Check.due("open(0)", o.open(0), due[duty]);
            Check.due("finish(0)", o.finish(0), -due[duty]);
        }
    }

    private static void finishedInOrder() {
        Check.sentence("Duties of a rule are finished in order");
        Obligary o = Given.rule(EVERY, 10, SKIP, 0);
        Given.passTo(o, 25);
        // Days 20 and 40 are days off.
        int[] late = {25, 15, -5, -25, -35};
        for (int duty = 0; duty < late.length; duty++) {
            Check.due("finish(0) of duty " + duty, o.finish(0), late[duty]);
        }
    }

    private static void finishedStays() {
        Check.sentence("this number stays when due days change");
        Obligary o = Given.rule(EVERY, 7, SKIP, 0);
        Given.finish(o, 0, 2);
        Check.due("open(0)", o.open(0), 14);
        o.holiday(0);
        Check.due("finished(0) when the first falls away", o.finished(0), 2);
        Check.due("open(0) when the first falls away", o.open(0), 21);
        o.setShift(0, FOLLOWING);
        Check.due("finished(0) when the first is moved", o.finished(0), 2);
        Check.due("open(0) when the first is moved", o.open(0), 14);
        o.holiday(14);
        Check.due("open(0) when the open one is moved", o.open(0), 15);
        o.setShift(0, PRECEDING);
        Check.due("finished(0) when the first has no day before", o.finished(0), 2);
        Check.due("open(0) when the first has no day before", o.open(0), 21);
        Given.holidays(o, 0, 14);
        Check.due("finished(0) when all is as before", o.finished(0), 2);
        Check.due("open(0) when all is as before", o.open(0), 14);
    }

    private static void finishedAboveTheDueDays() {
        Check.sentence("it can be above the number of due days then");
        Obligary o = Given.rule(EVERY, 1, SKIP, 716);
        Given.finish(o, 0, 3);
        Given.holidays(o, 716, 717);
        Check.due("duties(0)", o.duties(0), 1);
        Check.due("finished(0)", o.finished(0), 3);
        Check.due("open(0)", o.open(0), NONE);
        Check.thrown(MISSING, "finish(0)", () -> o.finish(0));
        o.holiday(718);
        Check.due("duties(0), none left", o.duties(0), 0);
        Check.due("finished(0), none left", o.finished(0), 3);
        Given.holidays(o, 716, 717, 718);
        Check.due("duties(0), all again", o.duties(0), 3);
        Check.due("open(0), all again", o.open(0), NONE);
        Obligary fewer = Given.rule(EVERY, 1, SKIP, 714);
        Given.finish(fewer, 0, 3);
        Given.holidays(fewer, 714, 715, 716);
        Check.due("duties(0), fewer", fewer.duties(0), 2);
        Check.due("open(0), fewer", fewer.open(0), NONE);
        fewer.holiday(714);
        Check.due("open(0), as many", fewer.open(0), NONE);
        fewer.holiday(715);
        Check.due("open(0), one more", fewer.open(0), 718);
        Check.due("finish(0), one more", fewer.finish(0), -718);
        Check.due("finished(0), one more", fewer.finished(0), 4);
    }

    private static void openIsTheFirstNotFinished() {
        Check.sentence("The open duty of a rule is the first one that is not finished");
        Obligary o = Given.rule(MONTHLY, 1, SKIP, 0);
        Check.due("open(0)", o.open(0), 1);
        Given.passTo(o, 200);
        Check.due("open(0), long overdue", o.open(0), 1);
        o.finish(0);
        Check.due("open(0), also overdue", o.open(0), 31);
    }

    private static void noOpenDuty() {
        Check.sentence("if there is one");
        Obligary o = Given.rule(EVERY, 60, SKIP, 718);
        Check.due("open(0), the last", o.open(0), 718);
        o.finish(0);
        Check.due("open(0), all finished", o.open(0), NONE);
        Check.due("open(0), no duties", Given.rule(EVERY, 7, SKIP, 5).open(0), NONE);
    }

    private static void requiresDirectly() {
        Check.sentence("A rule can require other rules, directly");
        Obligary o = Given.daily(8);
        for (int other = 7; other > 0; other--) {
            Check.due("require(0, " + other + ")", o.require(0, other), true);
            Check.due("blockedBy(0)", o.blockedBy(0), other);
        }
        for (int other = 1; other < 8; other++) {
            Check.due("blockedBy(0) before rule " + other + " is finished", o.blockedBy(0), other);
            o.finish(other);
        }
        Check.due("blockedBy(0) when all are finished", o.blockedBy(0), NONE);
    }

    private static void neverItself() {
        Check.sentence("no rule requires itself, directly");
        Obligary o = Given.daily(8);
        for (int rule = 0; rule < 8; rule++) {
            int same = rule;
            Check.thrown(STATE, "require(" + rule + ", " + rule + ")", () -> o.require(same, same));
            Check.due("blockedBy(" + rule + ")", o.blockedBy(rule), NONE);
        }
        o.require(0, 1);
        Check.thrown(STATE, "require(0, 0), when it requires another", () -> o.require(0, 0));
        Check.thrown(STATE, "require(1, 1), when it is required", () -> o.require(1, 1));
    }

    private static void neverItselfOverOthers() {
        Check.sentence("no rule requires itself .. over others");
        for (int length = 2; length <= 8; length++) {
            Obligary o = Given.daily(length);
            for (int rule = 0; rule + 1 < length; rule++) {
                Check.due("require(" + rule + ", " + (rule + 1) + ")", o.require(rule, rule + 1), true);
            }
            for (int rule = 1; rule < length; rule++) {
                for (int other = 0; other < rule; other++) {
                    int from = rule;
                    int to = other;
                    Check.thrown(STATE, "require(" + from + ", " + to + ")", () -> o.require(from, to));
                }
            }
        }
    }

    private static void chainsInAnyOrder() {
        Check.sentence("no rule requires itself .. over others: the links of the circle made in any order");
        int[][] orders = {{6, 5, 4, 3, 2, 1, 0}, {0, 2, 4, 6, 1, 3, 5}, {3, 0, 6, 1, 5, 2, 4}, {0, 6, 1, 5, 2, 4, 3}};
        for (int[] order : orders) {
            Obligary o = Given.daily(8);
            for (int rule : order) {
                Check.due("require(" + rule + ", " + (rule + 1) + ")", o.require(rule, rule + 1), true);
            }
            for (int rule = 1; rule < 8; rule++) {
                int from = rule;
                Check.thrown(STATE, "require(" + rule + ", 0)", () -> o.require(from, 0));
                Check.thrown(STATE, "require(7, " + (rule - 1) + ")", () -> o.require(7, from - 1));
            }
            Check.due("require(0, 7), no circle", o.require(0, 7), true);
        }
    }

    private static void twoWaysAreNoCircle() {
        Check.sentence("no rule requires itself: two ways to one rule, or a rule required by several, are no circle");
        Obligary o = Given.daily(8);
        int[][] links = {{0, 1}, {0, 2}, {1, 3}, {2, 3}, {0, 3}, {2, 1}, {4, 0}, {4, 3}, {3, 5}, {4, 5}, {6, 7},
            {6, 5}};
        for (int[] link : links) {
            Check.due("require(" + link[0] + ", " + link[1] + ")", o.require(link[0], link[1]), true);
        }
        Check.due("require(7, 4), two parts joined", o.require(7, 4), true);
        Check.thrown(STATE, "require(5, 6), a circle over both parts", () -> o.require(5, 6));
        Check.thrown(STATE, "require(0, 6), a circle over both parts", () -> o.require(0, 6));
        Check.due("require(7, 5), no circle", o.require(7, 5), true);
    }

    /** Two rules, the first of which requires the second. */
    private static Obligary requiring(int due, int otherDue) {
        Obligary o = Given.dueFrom(due, otherDue);
        o.require(0, 1);
        return o;
    }

    private static void blockedOnTheSameDay() {
        Check.sentence("if that one has an open duty that is due on the same day");
        Obligary o = requiring(3, 3);
        Check.due("blockedBy(0)", o.blockedBy(0), 1);
        Check.thrown(STATE, "finish(0)", () -> o.finish(0));
        Check.due("order(3, 0)", o.order(3, 0), 1);
        Check.due("order(3, 1)", o.order(3, 1), 0);
        Check.due("blockedBy(1), the one that is required", o.blockedBy(1), NONE);
    }

    private static void blockedByEarlier() {
        Check.sentence("or earlier");
        Obligary o = requiring(3, 2);
        Check.due("blockedBy(0), a day earlier", o.blockedBy(0), 1);
        Check.thrown(STATE, "finish(0), a day earlier", () -> o.finish(0));
        Obligary first = requiring(718, 0);
        Check.due("blockedBy(0), the first day", first.blockedBy(0), 1);
        Given.finish(first, 1, 8);
        Check.due("open(1)", first.open(1), 660);
        Check.due("blockedBy(0), by a later duty", first.blockedBy(0), 1);
        first.finish(1);
        Check.due("blockedBy(0), all finished", first.blockedBy(0), NONE);
    }

    private static void notBlockedByLater() {
        Check.sentence("on the same day or earlier: one that is due later does not block");
        Obligary o = requiring(2, 3);
        Check.due("blockedBy(0), a day later", o.blockedBy(0), NONE);
        Given.passTo(o, 10);
        Check.due("blockedBy(0), both overdue", o.blockedBy(0), NONE);
        Check.due("finish(0)", o.finish(0), 8);
        Check.due("open(0), the next", o.open(0), 122);
        Check.due("blockedBy(0), the next", o.blockedBy(0), 1);
    }

    private static void notBlockedWithoutOpenDuty() {
        Check.sentence("if that one has an open duty");
        Obligary o = requiring(718, 718);
        o.finish(1);
        Check.due("blockedBy(0), all of the other finished", o.blockedBy(0), NONE);
        Check.due("finish(0), all of the other finished", o.finish(0), -718);
        Obligary saturdays = Given.rule(EVERY, 60, SKIP, 3);
        saturdays.addRule(EVERY, 7, SKIP, 5, 1, 0);
        saturdays.require(0, 1);
        Check.due("blockedBy(0), the other has no duties", saturdays.blockedBy(0), NONE);
        Check.due("finish(0), the other has no duties", saturdays.finish(0), -3);
        Check.sentence("The open duty of a rule is blocked: without an open duty it is not");
        Obligary done = requiring(718, 0);
        Given.finish(done, 1, 9);
        done.finish(0);
        done.addRule(EVERY, 1, SKIP, 0, 1, 0);
        done.require(0, 2);
        Check.due("blockedBy(0)", done.blockedBy(0), NONE);
        Check.thrown(MISSING, "finish(0)", () -> done.finish(0));
    }

    private static void notBlockedOverOthers() {
        Check.sentence("blocked by a rule that it requires directly");
        Obligary o = Given.dueFrom(3, 10, 2);
        o.require(0, 1);
        o.require(1, 2);
        Check.due("blockedBy(0): it requires rule 2 over rule 1 alone", o.blockedBy(0), NONE);
        Check.due("blockedBy(1)", o.blockedBy(1), 2);
        Check.due("finish(0)", o.finish(0), -3);
        Check.due("blockedBy(2), required and requiring none", o.blockedBy(2), NONE);
    }

    private static void blockedByTheOpenDutyAlone() {
        Check.sentence("blocked .. if that one has an open duty: its finished duties do not block");
        Obligary o = requiring(3, 3);
        o.finish(1);
        Check.due("open(1)", o.open(1), 63);
        Check.due("blockedBy(0)", o.blockedBy(0), NONE);
        Check.due("finish(0)", o.finish(0), -3);
        Check.due("blockedBy(0), the next on the same day", o.blockedBy(0), 1);
    }

    private static void blockedAsDueDaysAre() {
        Check.sentence("blocked .. due on the same day or earlier, as due days are when it is asked");
        Obligary o = Given.dueFrom(3, 4);
        o.require(0, 1);
        Check.due("blockedBy(0)", o.blockedBy(0), NONE);
        o.holiday(4);
        o.setShift(1, PRECEDING);
        Check.due("blockedBy(0), the other moved to its day", o.blockedBy(0), 1);
        o.setShift(1, FOLLOWING);
        Check.due("blockedBy(0), the other moved away", o.blockedBy(0), NONE);
        o.holiday(3);
        o.setShift(0, FOLLOWING);
        Check.due("blockedBy(0), both moved to one day", o.blockedBy(0), 1);
    }

    private static void evidenceFromTodayBothWith() {
        Check.sentence("When a duty is finished .. evidence from today to today and its validity, together, both with");
        Obligary o = new Obligary();
        o.addRule(EVERY, 60, SKIP, 40, 1, 10);
        o.addRule(EVERY, 60, SKIP, 40, 1, 99);
        Check.due("isCovered(0, 0) before", o.isCovered(0, 0), false);
        Check.due("isCovered(0, 20) before", o.isCovered(0, 20), false);
        Given.passTo(o, 20);
        o.finish(0);
        o.finish(1);
        int[] days = {0, 19, 20, 21, 29, 30, 31, 40, 118, 119, 120, 719};
        for (int day : days) {
            Check.due("isCovered(0, " + day + ")", o.isCovered(0, day), day >= 20 && day <= 30);
            Check.due("isCovered(1, " + day + ")", o.isCovered(1, day), day >= 20 && day <= 119);
        }
        Check.due("lasts(0)", o.lasts(0), 10);
        Check.due("lasts(1)", o.lasts(1), 99);
    }

    private static void evidenceOfValidity0() {
        Check.sentence("from today to today and its validity: with validity 0 for today alone");
        Obligary o = Given.rule(EVERY, 60, SKIP, 0);
        Given.passTo(o, 7);
        o.finish(0);
        Check.due("isCovered(0, 6)", o.isCovered(0, 6), false);
        Check.due("isCovered(0, 7)", o.isCovered(0, 7), true);
        Check.due("isCovered(0, 8)", o.isCovered(0, 8), false);
        Check.due("lasts(0)", o.lasts(0), 0);
    }

    private static void evidenceTakesThePlace() {
        Check.sentence("this takes the place of the evidence that it had");
        Obligary o = new Obligary();
        o.addRule(EVERY, 10, SKIP, 0, 1, 5);
        o.finish(0);
        Given.passTo(o, 3);
        o.finish(0);
        int[] days = {0, 2, 3, 5, 6, 8, 9};
        for (int day : days) {
            Check.due("isCovered(0, " + day + ")", o.isCovered(0, day), day >= 3 && day <= 8);
        }
        Check.due("lasts(0)", o.lasts(0), 5);
        o.finish(0);
        Check.due("lasts(0), once more on the same day", o.lasts(0), 5);
        Given.passTo(o, 100);
        Check.due("lasts(0), lapsed", o.lasts(0), -92);
        o.finish(0);
        Check.due("isCovered(0, 8), lapsed and replaced", o.isCovered(0, 8), false);
        Check.due("isCovered(0, 100)", o.isCovered(0, 100), true);
        Check.due("isCovered(0, 105)", o.isCovered(0, 105), true);
        Check.due("isCovered(0, 106)", o.isCovered(0, 106), false);
        Check.due("lasts(0), replaced", o.lasts(0), 5);
    }

    private static void evidenceStaysWhenDueDaysChange() {
        Check.sentence("When a duty is finished, the rule has evidence: it keeps it when due days change");
        Obligary o = new Obligary();
        o.addRule(EVERY, 60, SKIP, 718, 1, 5);
        o.finish(0);
        o.holiday(718);
        Check.due("duties(0)", o.duties(0), 0);
        Check.due("isCovered(0, 5)", o.isCovered(0, 5), true);
        Check.due("isCovered(0, 6)", o.isCovered(0, 6), false);
        Check.due("lasts(0)", o.lasts(0), 5);
    }
}
