import java.util.NoSuchElementException;

/** Promises 16 to 21: finish, open, finished, blockedBy, overdue, order. */
final class DutiesTest {
    private static final Class<IndexOutOfBoundsException> INDEX = IndexOutOfBoundsException.class;
    private static final Class<NoSuchElementException> MISSING = NoSuchElementException.class;
    private static final Class<IllegalStateException> STATE = IllegalStateException.class;

    public static void main(String[] args) {
        finish();
        finishAll();
        finishedAboveTheDuties();
        blocked();
        noOpenDutyComesBeforeBlocked();
        overdue();
        order();
        orderAroundRequirements();
        wrongArguments();
        Check.end();
    }

    private static void finish() {
        Obligary o = new Obligary();
        o.addRule(Obligary.MONTHLY, 2, Obligary.SKIP, 0, 1, 0);
        o.addRule(Obligary.MONTHLY, 3, Obligary.SKIP, 0, 1, 0);
        Check.due("open(0)", o.open(0), 2);
        Check.due("finish(0), early", o.finish(0), -2);
        Check.due("finished(0)", o.finished(0), 1);
        Check.due("finished(1), another rule", o.finished(1), 0);
        Check.due("open(0), the next", o.open(0), 32);
        Check.due("open(1), another rule", o.open(1), 3);
        o.pass(32);
        Check.due("finish(0), on its day", o.finish(0), 0);
        Check.due("finish(1), late", o.finish(1), 29);
        Check.due("finish(0), early again", o.finish(0), -60);
        Check.due("open(0), after a skipped month", o.open(0), 122);
        Check.due("today() is unchanged", o.today(), 32);
    }

    private static void finishAll() {
        Obligary o = new Obligary();
        o.addRule(Obligary.EVERY, 60, Obligary.FOLLOWING, 660, 1, 0);
        Check.due("finish(0)", o.finish(0), -660);
        Check.due("open(0) when all is finished", o.open(0), Obligary.NONE);
        Check.thrown(MISSING, "finish(0) when all is finished", () -> o.finish(0));
        Check.due("finished(0) after a call that threw", o.finished(0), 1);
        o.addRule(Obligary.EVERY, 7, Obligary.SKIP, 5, 1, 0);
        Check.due("open(1) without duties", o.open(1), Obligary.NONE);
        Check.thrown(MISSING, "finish(1) without duties", () -> o.finish(1));
    }

    private static void finishedAboveTheDuties() {
        Obligary o = new Obligary();
        o.addRule(Obligary.EVERY, 7, Obligary.PRECEDING, 712, 1, 0);
        Check.due("duties(0)", o.duties(0), 2);
        o.finish(0);
        o.finish(0);
        o.setShift(0, Obligary.SKIP);
        Check.due("duties(0), skipped", o.duties(0), 0);
        Check.due("finished(0), skipped", o.finished(0), 2);
        Check.due("open(0), skipped", o.open(0), Obligary.NONE);
        for (int i = 0; i < 7; i++) {
            o.pass(100);
        }
        o.pass(19);
        Check.due("overdue() is never below 0", o.overdue(), 0);
        o.addRule(Obligary.EVERY, 60, Obligary.SKIP, 718, 1, 0);
        Check.due("overdue() of another rule", o.overdue(), 1);
        o.setShift(0, Obligary.FOLLOWING);
        Check.due("duties(0), following", o.duties(0), 1);
        Check.due("open(0), following", o.open(0), Obligary.NONE);
        Check.thrown(MISSING, "finish(0), following", () -> o.finish(0));
        Check.due("order(719, 0)", o.order(719, 0), 1);
        Check.due("order(719, 1)", o.order(719, 1), Obligary.NONE);
    }

    private static void blocked() {
        Obligary o = new Obligary();
        o.addRule(Obligary.MONTHLY, 3, Obligary.SKIP, 0, 1, 5);
        o.addRule(Obligary.MONTHLY, 4, Obligary.SKIP, 0, 1, 5);
        o.addRule(Obligary.MONTHLY, 3, Obligary.SKIP, 0, 1, 5);
        o.addRule(Obligary.MONTHLY, 2, Obligary.SKIP, 0, 1, 5);
        Check.due("blockedBy(0) without requirements", o.blockedBy(0), Obligary.NONE);
        o.require(0, 1);
        Check.due("blockedBy(0): the other is due later", o.blockedBy(0), Obligary.NONE);
        o.require(0, 3);
        Check.due("blockedBy(0): due earlier", o.blockedBy(0), 3);
        o.require(0, 2);
        Check.due("blockedBy(0): due the same day, the least rule", o.blockedBy(0), 2);
        Check.due("blockedBy(2) is not blocked by what requires it", o.blockedBy(2), Obligary.NONE);
        Check.thrown(STATE, "finish(0) when blocked", () -> o.finish(0));
        Check.due("finished(0) after a call that threw", o.finished(0), 0);
        Check.thrown(MISSING, "lasts(0) after a call that threw", () -> o.lasts(0));
        o.finish(2);
        Check.due("blockedBy(0): the least is done", o.blockedBy(0), 3);
        o.finish(3);
        Check.due("blockedBy(0): both are done", o.blockedBy(0), Obligary.NONE);
        Check.due("finish(0) when no more blocked", o.finish(0), -3);
        Check.due("open(0)", o.open(0), 63);
        Check.due("blockedBy(0): the next one", o.blockedBy(0), 1);
        o.setShift(1, Obligary.FOLLOWING);
        o.holiday(4);
        Check.due("open(1), moved", o.open(1), 7);
        Check.due("blockedBy(0), moved", o.blockedBy(0), 1);
    }

    private static void noOpenDutyComesBeforeBlocked() {
        Obligary o = new Obligary();
        o.addRule(Obligary.EVERY, 7, Obligary.SKIP, 5, 1, 0);
        o.addRule(Obligary.EVERY, 1, Obligary.SKIP, 0, 1, 0);
        o.require(0, 1);
        Check.due("blockedBy(0) without open duty", o.blockedBy(0), Obligary.NONE);
        Check.thrown(MISSING, "finish(0) without open duty", () -> o.finish(0));
        o.addRule(Obligary.EVERY, 1, Obligary.SKIP, 0, 1, 0);
        o.require(2, 0);
        Check.due("blockedBy(2) by a rule without open duty", o.blockedBy(2), Obligary.NONE);
        Check.due("finish(2)", o.finish(2), 0);
    }

    private static void overdue() {
        Obligary o = new Obligary();
        o.addRule(Obligary.EVERY, 1, Obligary.SKIP, 0, 1, 0);
        o.addRule(Obligary.MONTHLY, 2, Obligary.SKIP, 0, 1, 0);
        Check.due("overdue() on day 0", o.overdue(), 0);
        o.pass(2);
        Check.due("overdue(): today is not overdue", o.overdue(), 2);
        o.pass(1);
        Check.due("overdue() on day 3", o.overdue(), 4);
        o.finish(0);
        o.finish(1);
        Check.due("overdue() after finishing", o.overdue(), 2);
        o.finish(1);
        Check.due("overdue(): duties finished early make none of another rule good", o.overdue(), 2);
        o.pass(7);
        Check.due("overdue() on day 10", o.overdue(), 7);
    }

    private static void orderIs(Obligary o, int until, int... rules) {
        for (int place = 0; place < rules.length; place++) {
            Check.due("order(" + until + ", " + place + ")", o.order(until, place), rules[place]);
        }
        Check.due("order(" + until + ", " + rules.length + ")", o.order(until, rules.length), Obligary.NONE);
        Check.due("order(" + until + ", MAX)", o.order(until, Integer.MAX_VALUE), Obligary.NONE);
    }

    private static void order() {
        Obligary o = new Obligary();
        o.addRule(Obligary.MONTHLY, 2, Obligary.SKIP, 0, 1, 0);
        o.addRule(Obligary.EVERY, 2, Obligary.SKIP, 0, 1, 0);
        o.addRule(Obligary.MONTHLY, 0, Obligary.SKIP, 0, 1, 0);
        orderIs(o, 0, 1, 2);
        orderIs(o, 2, 1, 2, 0, 1);
        orderIs(o, 8, 1, 2, 0, 1, 1, 1);
        o.finish(1);
        o.finish(1);
        orderIs(o, 8, 2, 0, 1, 1);
        o.pass(50);
        orderIs(o, 4, 2, 0, 1);
        Check.due("finished(0): nothing changes", o.finished(0), 0);
        Check.due("open(2): nothing changes", o.open(2), 0);
    }

    private static void orderAroundRequirements() {
        Obligary o = new Obligary();
        o.addRule(Obligary.MONTHLY, 3, Obligary.SKIP, 0, 1, 0);
        o.addRule(Obligary.EVERY, 3, Obligary.SKIP, 0, 1, 0);
        o.addRule(Obligary.MONTHLY, 3, Obligary.SKIP, 0, 1, 0);
        o.addRule(Obligary.MONTHLY, 4, Obligary.SKIP, 0, 1, 0);
        orderIs(o, 4, 1, 0, 1, 2, 3);
        o.require(0, 2);
        orderIs(o, 4, 1, 1, 2, 0, 3);
        o.require(1, 0);
        orderIs(o, 4, 1, 2, 0, 1, 3);
        o.require(2, 3);
        orderIs(o, 3, 1, 2, 0, 1);
        o.finish(1);
        o.finish(2);
        o.finish(0);
        orderIs(o, 10, 1, 3, 1);
        Check.due("blockedBy(1): nothing changes", o.blockedBy(1), Obligary.NONE);
    }

    private static void wrongArguments() {
        Obligary o = new Obligary();
        o.addRule(Obligary.EVERY, 1, Obligary.SKIP, 0, 1, 0);
        for (int bad : new int[] {-1, 1, 8, Integer.MIN_VALUE, Integer.MAX_VALUE}) {
            Check.thrown(INDEX, "finish(" + bad + ")", () -> o.finish(bad));
            Check.thrown(INDEX, "open(" + bad + ")", () -> o.open(bad));
            Check.thrown(INDEX, "finished(" + bad + ")", () -> o.finished(bad));
            Check.thrown(INDEX, "blockedBy(" + bad + ")", () -> o.blockedBy(bad));
        }
        for (int bad : new int[] {-1, 720, Integer.MIN_VALUE, Integer.MAX_VALUE}) {
            Check.thrown(INDEX, "order(" + bad + ", 0)", () -> o.order(bad, 0));
        }
        Check.thrown(INDEX, "order(0, -1)", () -> o.order(0, -1));
        Check.thrown(INDEX, "order(0, MIN)", () -> o.order(0, Integer.MIN_VALUE));
        Check.due("finished(0) after calls that threw", o.finished(0), 0);
    }
}
