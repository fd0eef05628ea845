import java.util.NoSuchElementException;

/** Promises 16 to 21: finish, open, finished, blockedBy, overdue, order. */
final class DutiesTest {
    private static final Class<IndexOutOfBoundsException> INDEX = IndexOutOfBoundsException.class;
    private static final Class<NoSuchElementException> MISSING = NoSuchElementException.class;
    private static final Class<IllegalStateException> STATE = IllegalStateException.class;
    private static final int EVERY = Given.EVERY, MONTHLY = Given.MONTHLY;
    private static final int FOLLOWING = Given.FOLLOWING, SKIP = Given.SKIP;
    private static final int NONE = Obligary.NONE;
    private static final int LOWEST = Integer.MIN_VALUE, HIGHEST = Integer.MAX_VALUE;

    public static void main(String[] args) {
        finishesTheOpenDuty();
        finishesToday();
        howLate();
        noRuleToFinish();
        noOpenDutyToFinish();
        blockedToFinish();
        finishOrderOfExceptions();
        refusedFinishesLeaveNothing();
        open();
        openOfNone();
        finished();
        finishedOfAll();
        noRuleToAsk();
        leastBlocker();
        notBlocked();
        blockedByWithoutOpenDuty();
        overdueBeforeToday();
        overdueNotFinished();
        overdueOfAllRules();
        overdueOfNone();
        overdueFinishedAbove();
        orderUpToADay();
        orderNotFinished();
        orderLeastDueDay();
        orderLeastRule();
        orderNotBlocked();
        orderEachTime();
        orderOfNone();
        orderOfAll();
        orderChangesNothing();
        noDayForOrder();
        noPlaceBelow0();
        Check.end();
    }

    private static void finishesTheOpenDuty() {
        Check.sentence("Promise 16: Finishes the open duty of a rule");
        Obligary o = Given.dueFrom(3, 4);
        o.finish(0);
        Check.due("finished(0)", o.finished(0), 1);
        Check.due("open(0)", o.open(0), 63);
        Check.due("finished(1), another rule", o.finished(1), 0);
        Check.due("open(1), another rule", o.open(1), 4);
    }

    private static void finishesToday() {
        Check.sentence("Promise 16: today");
        Obligary o = new Obligary();
        o.addRule(EVERY, 1, SKIP, 0, 1, 2);
        Given.passTo(o, 6);
        Check.due("finish(0) on a Sunday", o.finish(0), 6);
        Check.due("isCovered(0, 5)", o.isCovered(0, 5), false);
        Check.due("isCovered(0, 6)", o.isCovered(0, 6), true);
        Check.due("isCovered(0, 8)", o.isCovered(0, 8), true);
        Check.due("isCovered(0, 9)", o.isCovered(0, 9), false);
        Check.due("today()", o.today(), 6);
    }

    private static void howLate() {
        Check.sentence("Promise 16: Returns by how many days it is late: today less its due day (below 0 if early)");
        Obligary o = Given.dueFrom(10, 11, 9, 0, 718);
        Given.passTo(o, 10);
        Check.due("finish(0), on its day", o.finish(0), 0);
        Check.due("finish(1), a day early", o.finish(1), -1);
        Check.due("finish(2), a day late", o.finish(2), 1);
        Check.due("finish(3), of the first day", o.finish(3), 10);
        Check.due("finish(4), of the last working day", o.finish(4), -708);
        Obligary last = Given.dueFrom(0, 718);
        Check.due("finish(1) on day 0", last.finish(1), -718);
        Given.passTo(last, 719);
        Check.due("finish(0) on day 719", last.finish(0), 719);
    }

    private static void noRuleToFinish() {
        Check.sentence("Promise 16: Throws IndexOutOfBoundsException if there is no such rule");
        for (int count : new int[] {0, 1, 8}) {
            Obligary o = Given.daily(count);
            for (int bad : new int[] {-1, count, 8, LOWEST, HIGHEST}) {
                Check.thrown(INDEX, "finish(" + bad + ")", () -> o.finish(bad));
            }
            Check.due("overdue()", o.overdue(), 0);
            Check.due("order(0, 0)", o.order(0, 0), count == 0 ? NONE : 0);
        }
    }

    private static void noOpenDutyToFinish() {
        Check.sentence("Promise 16: Throws java.util.NoSuchElementException if it has no open duty");
        Obligary o = Given.dueFrom(718);
        o.finish(0);
        Check.thrown(MISSING, "finish(0) when all is finished", () -> o.finish(0));
        Check.due("finished(0)", o.finished(0), 1);
        o.addRule(EVERY, 7, SKIP, 5, 1, 0);
        Check.thrown(MISSING, "finish(1) without duties", () -> o.finish(1));
        Check.due("finished(1)", o.finished(1), 0);
        o.holiday(718);
        Check.thrown(MISSING, "finish(0), more finished than due", () -> o.finish(0));
        Check.due("finished(0)", o.finished(0), 1);
    }

    private static void blockedToFinish() {
        Check.sentence("Promise 16: Throws IllegalStateException if that is blocked by some rule");
        Obligary o = Given.dueFrom(3, 4, 3, 2);
        o.require(0, 1);
        Check.due("finish(0), the other is due later", o.finish(0), -3);
        Obligary blocked = Given.dueFrom(3, 4, 3, 2);
        blocked.require(0, 1);
        blocked.require(0, 2);
        blocked.require(0, 3);
        Check.thrown(STATE, "finish(0), blocked by two", () -> blocked.finish(0));
        blocked.finish(2);
        Check.thrown(STATE, "finish(0), blocked by one", () -> blocked.finish(0));
        blocked.finish(3);
        Check.due("finish(0), no more blocked", blocked.finish(0), -3);
        Obligary last = Given.daily(8);
        last.require(0, 7);
        Check.thrown(STATE, "finish(0), blocked by the last rule", () -> last.finish(0));
        last.require(7, 6);
        Check.thrown(STATE, "finish(7), blocked by a rule before it", () -> last.finish(7));
    }

    private static void finishOrderOfExceptions() {
        Check.sentence("Promise 16: throws .. NoSuchElementException, IllegalStateException, in this order");
        Obligary never = Given.rule(EVERY, 7, SKIP, 5);
        never.addRule(EVERY, 1, SKIP, 0, 1, 0);
        never.require(0, 1);
        Check.thrown(MISSING, "finish(0), it has no duties and requires an open rule", () -> never.finish(0));
        Obligary done = Given.dueFrom(718, 718);
        done.finish(0);
        done.require(0, 1);
        Check.thrown(MISSING, "finish(0), all is finished and it requires an open rule", () -> done.finish(0));
        Check.thrown(INDEX, "finish(2), when others are blocked", () -> done.finish(2));
    }

    private static void refusedFinishesLeaveNothing() {
        Check.sentence("a call that throws changes nothing: finish");
        Obligary o = new Obligary();
        o.addRule(EVERY, 60, SKIP, 3, 1, 9);
        o.addRule(EVERY, 60, SKIP, 3, 1, 9);
        o.require(0, 1);
        Check.thrown(STATE, "finish(0), blocked", () -> o.finish(0));
        Check.due("finished(0)", o.finished(0), 0);
        Check.due("open(0)", o.open(0), 3);
        Check.due("isCovered(0, 0)", o.isCovered(0, 0), false);
        Check.thrown(MISSING, "lasts(0)", () -> o.lasts(0));
        o.finish(1);
        o.finish(0);
        Given.passTo(o, 5);
        Check.thrown(STATE, "finish(0), blocked again", () -> o.finish(0));
        Check.due("finished(0)", o.finished(0), 1);
        Check.due("lasts(0), as before", o.lasts(0), 4);
        Check.due("isCovered(0, 0), as before", o.isCovered(0, 0), true);
        Obligary done = new Obligary();
        done.addRule(EVERY, 60, SKIP, 718, 1, 9);
        done.finish(0);
        Given.passTo(done, 5);
        Check.thrown(MISSING, "finish(0), all is finished", () -> done.finish(0));
        Check.due("finished(0)", done.finished(0), 1);
        Check.due("lasts(0), as before", done.lasts(0), 4);
    }

    private static void open() {
        Check.sentence("Promise 17: Returns the due day of the open duty of a rule");
        Obligary o = Given.rule(MONTHLY, 5, FOLLOWING, 0);
        Check.due("open(0), moved", o.open(0), 7);
        o.finish(0);
        Check.due("open(0), the next", o.open(0), 35);
        o.holiday(35);
        Check.due("open(0), moved by a holiday", o.open(0), 36);
        Given.passTo(o, 100);
        Check.due("open(0), long overdue", o.open(0), 36);
        Check.due("open(0) of the first day", Given.dueFrom(0).open(0), 0);
        Check.due("open(0) of the last working day", Given.dueFrom(718).open(0), 718);
    }

    private static void openOfNone() {
        Check.sentence("Promise 17: NONE if it has no open duty");
        Obligary o = Given.dueFrom(718);
        o.finish(0);
        Check.due("open(0), all is finished", o.open(0), NONE);
        o.holiday(718);
        Check.due("open(0), more finished than due", o.open(0), NONE);
        Check.due("open(0) without duties", Given.rule(EVERY, 7, SKIP, 5).open(0), NONE);
    }

    private static void finished() {
        Check.sentence("Promise 18: Returns how many duties of a rule are finished");
        Obligary o = Given.daily(2);
        for (int count = 0; count < 5; count++) {
            Check.due("finished(0)", o.finished(0), count);
            o.finish(0);
        }
        Check.due("finished(1), another rule", o.finished(1), 0);
        o.pass(50);
        Check.due("finished(0), on a later day", o.finished(0), 5);
        Check.due("finished(1), on a later day", o.finished(1), 0);
    }

    private static void finishedOfAll() {
        Check.sentence("Promise 18: how many duties of a rule are finished: all of them, and above the due days");
        Obligary o = Given.rule(EVERY, 60, FOLLOWING, 0);
        Given.finish(o, 0, 12);
        Check.due("finished(0)", o.finished(0), 12);
        o.setShift(0, SKIP);
        Check.due("finished(0) of 9 due days", o.finished(0), 12);
        Check.due("duties(0)", o.duties(0), 9);
        Check.due("finished(0) without duties", Given.rule(EVERY, 7, SKIP, 5).finished(0), 0);
    }

    private static void noRuleToAsk() {
        Check.sentence("Promises 17 to 19: Throws IndexOutOfBoundsException if there is no such rule");
        for (int count : new int[] {0, 1, 8}) {
            Obligary o = Given.daily(count);
            for (int bad : new int[] {-1, count, 8, LOWEST, HIGHEST}) {
                Check.thrown(INDEX, "open(" + bad + ")", () -> o.open(bad));
                Check.thrown(INDEX, "finished(" + bad + ")", () -> o.finished(bad));
                Check.thrown(INDEX, "blockedBy(" + bad + ")", () -> o.blockedBy(bad));
            }
        }
    }

    private static void leastBlocker() {
        Check.sentence("Promise 19: Returns the least rule by which the open duty of a rule is blocked");
        Obligary o = Given.dueFrom(3, 4, 3, 2, 3);
        for (int other : new int[] {4, 3, 2, 1}) {
            o.require(0, other);
        }
        Check.due("blockedBy(0): rule 1 is due later, 2 on the same day, 3 earlier", o.blockedBy(0), 2);
        o.finish(2);
        Check.due("blockedBy(0) then", o.blockedBy(0), 3);
        o.finish(3);
        Check.due("blockedBy(0) then", o.blockedBy(0), 4);
        o.finish(4);
        Check.due("blockedBy(0) at last", o.blockedBy(0), NONE);
        Obligary first = Given.daily(8);
        first.require(7, 0);
        first.require(7, 6);
        Check.due("blockedBy(7), by rule 0", first.blockedBy(7), 0);
        first.finish(0);
        Check.due("blockedBy(7), by rule 6", first.blockedBy(7), 6);
    }

    private static void notBlocked() {
        Check.sentence("Promise 19: NONE if it is not blocked");
        Obligary o = Given.dueFrom(3, 4);
        Check.due("blockedBy(0) without requirements", o.blockedBy(0), NONE);
        o.require(0, 1);
        Check.due("blockedBy(0), the other is due later", o.blockedBy(0), NONE);
        Check.due("blockedBy(1), required by the other", o.blockedBy(1), NONE);
        Obligary done = Given.dueFrom(718, 718);
        done.require(0, 1);
        done.finish(1);
        Check.due("blockedBy(0), the other is finished", done.blockedBy(0), NONE);
    }

    private static void blockedByWithoutOpenDuty() {
        Check.sentence("Promise 19: NONE if it .. has no open duty");
        Obligary never = Given.rule(EVERY, 7, SKIP, 5);
        never.addRule(EVERY, 1, SKIP, 0, 1, 0);
        never.require(0, 1);
        Check.due("blockedBy(0) without duties", never.blockedBy(0), NONE);
        Obligary done = Given.dueFrom(718, 0);
        done.finish(0);
        done.require(0, 1);
        Check.due("blockedBy(0), all is finished", done.blockedBy(0), NONE);
        Obligary neither = Given.rule(EVERY, 7, SKIP, 5);
        neither.addRule(EVERY, 7, SKIP, 5, 1, 0);
        neither.require(0, 1);
        Check.due("blockedBy(0), both without duties", neither.blockedBy(0), NONE);
    }

    private static void overdueBeforeToday() {
        Check.sentence("Promise 20: how many duties .. were due before today");
        Obligary o = Given.dueFrom(2);
        Check.due("overdue() on day 0", o.overdue(), 0);
        Given.passTo(o, 1);
        Check.due("overdue() on the day before", o.overdue(), 0);
        o.pass(1);
        Check.due("overdue() on its day", o.overdue(), 0);
        o.pass(1);
        Check.due("overdue() on the day after", o.overdue(), 1);
        Obligary last = Given.dueFrom(718);
        Given.passTo(last, 718);
        Check.due("overdue() on day 718", last.overdue(), 0);
        last.pass(1);
        Check.due("overdue() on day 719", last.overdue(), 1);
        Check.due("overdue() on day 0, of each day", Given.daily(8).overdue(), 0);
    }

    private static void overdueNotFinished() {
        Check.sentence("Promise 20: are not finished");
        Obligary o = Given.daily(1);
        Given.passTo(o, 9);
        Check.due("overdue()", o.overdue(), 7);
        for (int left = 6; left >= 0; left--) {
            o.finish(0);
            Check.due("overdue() with " + left + " left", o.overdue(), left);
        }
        o.finish(0);
        Check.due("overdue(), today's is finished", o.overdue(), 0);
        o.pass(1);
        Check.due("overdue() a day later", o.overdue(), 0);
        o.pass(1);
        Check.due("overdue() two days later", o.overdue(), 1);
    }

    private static void overdueOfAllRules() {
        Check.sentence("Promise 20: of all rules");
        Obligary o = Given.daily(8);
        Given.passTo(o, 2);
        Check.due("overdue()", o.overdue(), 16);
        Given.finish(o, 7, 5);
        Check.due("overdue(), what is early of one rule makes none of another good", o.overdue(), 14);
        o.finish(0);
        Check.due("overdue() then", o.overdue(), 13);
        Given.passTo(o, 719);
        Check.due("overdue() on the last day", o.overdue(), 8 * 515 - 6);
    }

    private static void overdueOfNone() {
        Check.sentence("Promise 20: how many: 0 if there are none");
        Obligary o = new Obligary();
        Check.due("overdue() without rules", o.overdue(), 0);
        o.addRule(EVERY, 7, SKIP, 5, 1, 0);
        Given.passTo(o, 719);
        Check.due("overdue() without duties", o.overdue(), 0);
    }

    private static void overdueFinishedAbove() {
        Check.sentence("Promise 20: with more finished than due days, none of that rule is overdue");
        Obligary o = Given.rule(EVERY, 1, SKIP, 716);
        o.addRule(EVERY, 60, SKIP, 718, 1, 0);
        Given.finish(o, 0, 3);
        Given.holidays(o, 716, 717);
        Given.passTo(o, 719);
        Check.due("overdue()", o.overdue(), 1);
    }

    private static void orderIs(Obligary o, int until, int... rules) {
        for (int place = 0; place < rules.length; place++) {
            Check.due("order(" + until + ", " + place + ")", o.order(until, place), rules[place]);
        }
        Check.due("order(" + until + ", " + rules.length + ")", o.order(until, rules.length), NONE);
        Check.due("order(" + until + ", MAX)", o.order(until, HIGHEST), NONE);
    }

    private static void orderUpToADay() {
        Check.sentence("Promise 21: due up to a day");
        Obligary o = Given.dueFrom(2, 3);
        orderIs(o, 0);
        orderIs(o, 1);
        orderIs(o, 2, 0);
        orderIs(o, 3, 0, 1);
        orderIs(o, 62, 0, 1);
        orderIs(o, 63, 0, 1, 1);
        Given.passTo(o, 100);
        orderIs(o, 2, 0);
        orderIs(Given.dueFrom(718), 717);
        orderIs(Given.dueFrom(718), 718, 0);
        orderIs(Given.dueFrom(718), 719, 0);
        orderIs(Given.dueFrom(0), 0, 0);
    }

    private static void orderNotFinished() {
        Check.sentence("Promise 21: all duties that are not finished");
        Obligary o = Given.daily(2);
        o.finish(0);
        o.finish(0);
        orderIs(o, 2, 1, 1, 0, 1);
        o.finish(1);
        orderIs(o, 2, 1, 0, 1);
        Given.finish(o, 0, 3);
        orderIs(o, 4, 1, 1, 1, 1);
    }

    private static void orderLeastDueDay() {
        Check.sentence("Promise 21: the one with the least due day");
        Obligary o = Given.dueFrom(10, 9, 8, 7, 4, 3, 2, 1);
        orderIs(o, 10, 7, 6, 5, 4, 3, 2, 1, 0);
        orderIs(o, 8, 7, 6, 5, 4, 3, 2);
    }

    private static void orderLeastRule() {
        Check.sentence("Promise 21: of several the one of the least rule");
        Obligary o = Given.dueFrom(10, 9, 10, 9, 9);
        orderIs(o, 10, 1, 3, 4, 0, 2);
        orderIs(Given.daily(8), 1, 0, 1, 2, 3, 4, 5, 6, 7, 0, 1, 2, 3, 4, 5, 6, 7);
    }

    private static void orderNotBlocked() {
        Check.sentence("Promise 21: of the open duties that are .. not blocked");
        Obligary o = Given.dueFrom(3, 3, 3, 4);
        orderIs(o, 4, 0, 1, 2, 3);
        o.require(0, 2);
        orderIs(o, 4, 1, 2, 0, 3);
        o.require(1, 0);
        orderIs(o, 4, 2, 0, 1, 3);
        o.require(2, 3);
        orderIs(o, 4, 2, 0, 1, 3);
        Obligary late = Given.dueFrom(4, 3);
        late.require(1, 0);
        orderIs(late, 4, 1, 0);
        Obligary chain = Given.daily(8);
        for (int rule = 0; rule < 7; rule++) {
            chain.require(rule, rule + 1);
        }
        orderIs(chain, 1, 7, 6, 5, 4, 3, 2, 1, 0, 7, 6, 5, 4, 3, 2, 1, 0);
    }

    private static void orderEachTime() {
        Check.sentence("Promise 21: finished one after the other: each time");
        Obligary o = Given.rule(MONTHLY, 3, SKIP, 0);
        o.addRule(EVERY, 3, SKIP, 0, 1, 0);
        o.require(0, 1);
        orderIs(o, 9, 1, 1, 0, 1);
        o.finish(1);
        orderIs(o, 9, 1, 0, 1);
        o.finish(1);
        orderIs(o, 9, 0, 1);
        o.finish(1);
        orderIs(o, 14, 0);
        orderIs(o, 15, 0, 1);
        // What is only foreseen to be finished blocks no more, but what comes after it may.
        Obligary early = Given.dueFrom(10, 3);
        early.require(0, 1);
        orderIs(early, 10, 1, 0);
        Obligary often = Given.rule(EVERY, 4, SKIP, 4);
        often.addRule(EVERY, 1, SKIP, 1, 1, 0);
        often.require(0, 1);
        orderIs(often, 8, 1, 1, 1, 1, 0, 1, 1, 0);
    }

    private static void orderOfNone() {
        Check.sentence("Promise 21: NONE if there are not so many");
        orderIs(new Obligary(), 719);
        orderIs(Given.rule(EVERY, 7, SKIP, 5), 719);
        Obligary done = Given.dueFrom(718);
        done.finish(0);
        orderIs(done, 719);
        done.holiday(718);
        orderIs(done, 719);
        orderIs(Given.dueFrom(3), 2);
    }

    private static void orderOfAll() {
        Check.sentence("Promise 21: NONE if there are not so many: all of 8 rules on 515 days are there");
        Obligary o = Given.daily(8);
        Check.due("order(719, 4119)", o.order(719, 4119), 7);
        Check.due("order(719, 4120)", o.order(719, 4120), NONE);
        Check.due("order(718, 4119)", o.order(718, 4119), 7);
        Check.due("order(717, 4111)", o.order(717, 4111), 7);
        Check.due("order(717, 4112)", o.order(717, 4112), NONE);
        Check.due("order(719, MAX)", o.order(719, HIGHEST), NONE);
    }

    private static void orderChangesNothing() {
        Check.sentence("Promise 21: Nothing changes");
        Obligary o = new Obligary();
        o.addRule(EVERY, 3, SKIP, 0, 1, 5);
        o.addRule(EVERY, 1, SKIP, 0, 1, 5);
        o.require(0, 1);
        o.order(719, 300);
        o.order(719, HIGHEST);
        for (int rule = 0; rule < 2; rule++) {
            int asked = rule;
            Check.due("finished(" + rule + ")", o.finished(rule), 0);
            Check.due("open(" + rule + ")", o.open(rule), 0);
            Check.due("isCovered(" + rule + ", 0)", o.isCovered(rule, 0), false);
            Check.thrown(MISSING, "lasts(" + rule + ")", () -> o.lasts(asked));
        }
        Check.due("blockedBy(0)", o.blockedBy(0), 1);
        Check.thrown(STATE, "finish(0)", () -> o.finish(0));
        Check.due("finish(1)", o.finish(1), 0);
        Check.due("today()", o.today(), 0);
    }

    private static void noDayForOrder() {
        Check.sentence("Promise 21: Throws IndexOutOfBoundsException if there is no such day");
        for (Obligary o : new Obligary[] {new Obligary(), Given.daily(8)}) {
            for (int bad : new int[] {-1, 720, LOWEST, HIGHEST}) {
                for (int place : new int[] {0, HIGHEST, -1}) {
                    Check.thrown(INDEX, "order(" + bad + ", " + place + ")", () -> o.order(bad, place));
                }
            }
        }
    }

    private static void noPlaceBelow0() {
        Check.sentence("Promise 21: Throws IndexOutOfBoundsException if place is below 0");
        for (Obligary o : new Obligary[] {new Obligary(), Given.daily(8)}) {
            for (int bad : new int[] {-1, -2, LOWEST}) {
                for (int day : new int[] {0, 719}) {
                    Check.thrown(INDEX, "order(" + day + ", " + bad + ")", () -> o.order(day, bad));
                }
            }
        }
    }
}
