import java.util.Arrays;

/** Promises 7 to 10: addRule, setShift, require, rules. */
final class RulesTest {
    private static final Class<IndexOutOfBoundsException> INDEX = IndexOutOfBoundsException.class;
    private static final Class<IllegalArgumentException> ARGUMENT = IllegalArgumentException.class;
    private static final Class<IllegalStateException> STATE = IllegalStateException.class;
    private static final int LOWEST = Integer.MIN_VALUE, HIGHEST = Integer.MAX_VALUE;

    public static void main(String[] args) {
        noneIsFinished();
        returnsTheNumber();
        kinds();
        numbers();
        shifts();
        firsts();
        efforts();
        validities();
        noSuchFirst();
        eightRules();
        addRuleIndexFirst();
        addRuleArgumentBeforeState();
        refusedRulesLeaveNothing();
        shiftChanges();
        shiftBefore();
        noRuleToShift();
        noSuchShift();
        setShiftIndexFirst();
        requires();
        didNotBefore();
        fromNowOn();
        noRuleToRequire();
        circles();
        requireIndexFirst();
        refusedRequirementsLeaveNothing();
        rules();
        Check.end();
    }

    private static int add(Obligary o, int... a) {
        return o.addRule(a[0], a[1], a[2], a[3], a[4], a[5]);
    }

    private static void accepted(int... a) {
        Obligary o = new Obligary();
        String call = "addRule" + Arrays.toString(a);
        Check.thrown(null, call, () -> Check.due(call, add(o, a), 0));
        Check.due("rules() after " + call, o.rules(), 1);
    }

    private static void refused(Obligary o, Class<? extends RuntimeException> want, int... a) {
        int before = o.rules();
        Check.thrown(want, "addRule" + Arrays.toString(a), () -> add(o, a));
        Check.due("rules() after addRule" + Arrays.toString(a), o.rules(), before);
    }

    private static void noneIsFinished() {
        Check.sentence("Promise 7: none of its duties is finished");
        Obligary o = Given.daily(1);
        Given.passTo(o, 10);
        o.finish(0);
        o.addRule(Obligary.EVERY, 1, Obligary.SKIP, 0, 1, 9);
        Check.due("finished(1)", o.finished(1), 0);
        Check.due("open(1)", o.open(1), 0);
        Check.due("isCovered(1, 10)", o.isCovered(1, 10), false);
        Check.due("overdue()", o.overdue(), 7 + 8);
        Check.due("finished(0), another rule", o.finished(0), 1);
    }

    private static void returnsTheNumber() {
        Check.sentence("Promise 7: Returns the number of the rule");
        Obligary o = new Obligary();
        for (int i = 0; i < 8; i++) {
            Check.due("addRule " + i, o.addRule(Obligary.EVERY, 60, Obligary.SKIP, i * 7, 1, 0), i);
        }
        for (int i = 0; i < 8; i++) {
            Check.due("dueDay(" + i + ", 0)", o.dueDay(i, 0), i * 7);
        }
    }

    private static void kinds() {
        Check.sentence("Promise 7: kind: EVERY, MONTHLY, NTH or LAST");
        int[] due = {7, 30, 3, 29};
        for (int kind = 0; kind < 4; kind++) {
            Obligary o = new Obligary();
            Check.due("addRule of kind " + kind, o.addRule(kind, kind == 2 ? 4 : kind == 3 ? 1 : kind == 1 ? 0 : 7,
                    Obligary.SKIP, kind == 0 ? 7 : 3, 1, 0), 0);
            Check.due("dueDay(0, 0) of kind " + kind, o.dueDay(0, 0), due[kind]);
        }
        for (int bad : new int[] {-1, 4, LOWEST, HIGHEST}) {
            refused(new Obligary(), ARGUMENT, bad, 1, 0, 0, 1, 0);
        }
    }

    private static void numbers() {
        Check.sentence("Promise 7: n: for EVERY 1 to 60, for MONTHLY 0 to 29, for NTH and LAST 1 to 22");
        int[][] ranges = {{1, 60}, {0, 29}, {1, 22}, {1, 22}};
        for (int kind = 0; kind < 4; kind++) {
            int least = ranges[kind][0];
            int most = ranges[kind][1];
            for (int n = least; n <= most; n++) {
                accepted(kind, n, 0, 0, 1, 0);
            }
            for (int bad : new int[] {least - 1, most + 1, -1, 61, LOWEST, HIGHEST}) {
                refused(new Obligary(), ARGUMENT, kind, bad, 0, 0, 1, 0);
            }
        }
    }

    private static void shifts() {
        Check.sentence("Promise 7: shift: FOLLOWING, PRECEDING or SKIP");
        int[] due = {7, 4, 35};
        for (int shift = 0; shift < 3; shift++) {
            Obligary o = new Obligary();
            Check.due("addRule of shift " + shift, o.addRule(Obligary.MONTHLY, 5, shift, 0, 1, 0), 0);
            Check.due("dueDay(0, 0) of shift " + shift, o.dueDay(0, 0), due[shift]);
        }
        for (int bad : new int[] {-1, 3, LOWEST, HIGHEST}) {
            refused(new Obligary(), ARGUMENT, 0, 1, bad, 0, 1, 0);
        }
    }

    private static void firsts() {
        Check.sentence("Promise 7: first: the first day");
        for (int first : new int[] {0, 1, 718, 719}) {
            for (int kind = 0; kind < 4; kind++) {
                accepted(kind, 1, 0, first, 1, 0);
            }
        }
        Check.due("dueDay(0, 0) from 0 on", Given.rule(0, 60, 0, 0).dueDay(0, 0), 0);
        Check.due("dueDay(0, 0) from 718 on", Given.rule(0, 60, 0, 718).dueDay(0, 0), 718);
    }

    private static void efforts() {
        Check.sentence("Promise 7: effort: 1 to 9: the hours of each duty");
        for (int effort = 1; effort <= 9; effort++) {
            Obligary o = new Obligary();
            Check.due("addRule of effort " + effort, o.addRule(0, 1, 0, 0, effort, 0), 0);
            Check.due("load(0) of effort " + effort, o.load(0), effort);
            Check.due("load(718) of effort " + effort, o.load(718), effort);
        }
        for (int bad : new int[] {0, 10, -1, LOWEST, HIGHEST}) {
            refused(new Obligary(), ARGUMENT, 0, 1, 0, 0, bad, 0);
        }
    }

    private static void validities() {
        Check.sentence("Promise 7: validity: 0 to 99");
        for (int validity : new int[] {0, 1, 98, 99}) {
            Obligary o = new Obligary();
            Check.due("addRule of validity " + validity, o.addRule(0, 1, 0, 0, 1, validity), 0);
            o.finish(0);
            Check.due("lasts(0) of validity " + validity, o.lasts(0), validity);
        }
        for (int bad : new int[] {-1, 100, LOWEST, HIGHEST}) {
            refused(new Obligary(), ARGUMENT, 0, 1, 0, 0, 1, bad);
        }
    }

    private static void noSuchFirst() {
        Check.sentence("Promise 7: Throws IndexOutOfBoundsException if there is no day first");
        for (int bad : new int[] {-1, 720, LOWEST, HIGHEST}) {
            for (int kind = 0; kind < 4; kind++) {
                refused(new Obligary(), INDEX, kind, 1, 0, bad, 1, 0);
            }
        }
    }

    private static void eightRules() {
        Check.sentence("Promise 7: Throws IllegalStateException if there are 8 rules");
        Obligary o = Given.daily(7);
        Check.due("addRule, the eighth", o.addRule(0, 1, 0, 0, 1, 0), 7);
        for (int kind = 0; kind < 4; kind++) {
            refused(o, STATE, kind, 1, 0, 0, 1, 0);
        }
        Check.due("load(0)", o.load(0), 8);
    }

    private static void addRuleIndexFirst() {
        Check.sentence("Promise 7: throws IndexOutOfBoundsException before the others");
        Obligary empty = new Obligary();
        Obligary full = Given.daily(8);
        for (int bad : new int[] {-1, 720}) {
            for (Obligary o : new Obligary[] {empty, full}) {
                refused(o, INDEX, 4, 1, 0, bad, 1, 0);
                refused(o, INDEX, -1, 1, 0, bad, 1, 0);
                refused(o, INDEX, 0, 0, 0, bad, 1, 0);
                refused(o, INDEX, 1, 30, 0, bad, 1, 0);
                refused(o, INDEX, 0, 1, 3, bad, 1, 0);
                refused(o, INDEX, 0, 1, 0, bad, 0, 0);
                refused(o, INDEX, 0, 1, 0, bad, 1, 100);
                refused(o, INDEX, 9, 99, 9, bad, 99, 999);
            }
            refused(full, INDEX, 0, 1, 0, bad, 1, 0);
        }
    }

    private static void addRuleArgumentBeforeState() {
        Check.sentence("Promise 7: throws IllegalArgumentException before IllegalStateException");
        Obligary full = Given.daily(8);
        int[][] bad = {{-1, 1, 0, 0, 1, 0}, {4, 1, 0, 0, 1, 0}, {0, 0, 0, 0, 1, 0}, {0, 61, 0, 0, 1, 0},
            {1, -1, 0, 0, 1, 0}, {1, 30, 0, 0, 1, 0}, {2, 0, 0, 0, 1, 0}, {2, 23, 0, 0, 1, 0}, {3, 0, 0, 0, 1, 0},
            {3, 23, 0, 0, 1, 0}, {0, 1, -1, 0, 1, 0}, {0, 1, 3, 0, 1, 0}, {0, 1, 0, 0, 0, 0}, {0, 1, 0, 0, 10, 0},
            {0, 1, 0, 0, 1, -1}, {0, 1, 0, 0, 1, 100}, {4, 99, 3, 0, 10, 100}};
        for (int[] a : bad) {
            refused(full, ARGUMENT, a);
        }
    }

    private static void refusedRulesLeaveNothing() {
        Check.sentence("a call that throws changes nothing: addRule");
        Obligary o = Given.daily(1);
        refused(o, ARGUMENT, 0, 1, 0, 0, 9, 100);
        refused(o, ARGUMENT, 0, 1, 3, 0, 9, 0);
        refused(o, INDEX, 0, 1, 0, 720, 9, 0);
        Check.due("load(0)", o.load(0), 1);
        Check.due("addRule, the next", o.addRule(0, 1, 0, 0, 2, 0), 1);
        Check.due("load(0) then", o.load(0), 3);
    }

    private static void shiftChanges() {
        Check.sentence("Promise 8: Changes the shift of a rule");
        Obligary o = Given.rule(Obligary.EVERY, 60, Obligary.SKIP, 705);
        o.addRule(Obligary.EVERY, 60, Obligary.SKIP, 705, 1, 0);
        Check.dueDays("SKIP", o, 0);
        o.setShift(0, Obligary.FOLLOWING);
        Check.dueDays("FOLLOWING", o, 0, 707);
        o.setShift(0, Obligary.PRECEDING);
        Check.dueDays("PRECEDING", o, 0, 704);
        o.setShift(0, Obligary.PRECEDING);
        Check.dueDays("PRECEDING again", o, 0, 704);
        o.setShift(0, Obligary.SKIP);
        Check.dueDays("SKIP again", o, 0);
        Check.dueDays("another rule", o, 1);
    }

    private static void shiftBefore() {
        Check.sentence("Promise 8: Returns the shift before");
        for (int before = 0; before < 3; before++) {
            for (int after = 0; after < 3; after++) {
                Obligary o = Given.rule(Obligary.NTH, 1, before, 0);
                Check.due("setShift(0, " + after + ")", o.setShift(0, after), before);
                Check.due("setShift(0, 0) then", o.setShift(0, 0), after);
            }
        }
    }

    private static void noRuleToShift() {
        Check.sentence("Promise 8: Throws IndexOutOfBoundsException if there is no such rule");
        for (int count : new int[] {0, 1, 8}) {
            Obligary o = Given.daily(count);
            for (int bad : new int[] {-1, count, 8, 9, LOWEST, HIGHEST}) {
                for (int shift = 0; shift < 3; shift++) {
                    int to = shift;
                    Check.thrown(INDEX, "setShift(" + bad + ", " + shift + ")", () -> o.setShift(bad, to));
                }
            }
        }
    }

    private static void noSuchShift() {
        Check.sentence("Promise 8: Throws IllegalArgumentException if there is no such shift");
        Obligary o = Given.rule(Obligary.EVERY, 60, Obligary.PRECEDING, 705);
        for (int bad : new int[] {-1, 3, LOWEST, HIGHEST}) {
            Check.thrown(ARGUMENT, "setShift(0, " + bad + ")", () -> o.setShift(0, bad));
            Check.dueDays("after setShift(0, " + bad + ")", o, 0, 704);
        }
        Check.due("setShift(0, 0) then", o.setShift(0, 0), Obligary.PRECEDING);
    }

    private static void setShiftIndexFirst() {
        Check.sentence("Promise 8: throws IndexOutOfBoundsException, IllegalArgumentException, in this order");
        Obligary o = Given.daily(1);
        for (int bad : new int[] {-1, 1, 8, LOWEST, HIGHEST}) {
            for (int shift : new int[] {-1, 3, LOWEST, HIGHEST}) {
                Check.thrown(INDEX, "setShift(" + bad + ", " + shift + ")", () -> o.setShift(bad, shift));
            }
        }
    }

    private static void requires() {
        Check.sentence("Promise 9: Lets a rule require another one directly");
        Obligary o = Given.daily(8);
        for (int rule = 0; rule < 8; rule += 2) {
            Check.due("blockedBy(" + rule + ") before", o.blockedBy(rule), Obligary.NONE);
            o.require(rule, rule + 1);
            Check.due("blockedBy(" + rule + ")", o.blockedBy(rule), rule + 1);
            Check.due("blockedBy(" + (rule + 1) + ")", o.blockedBy(rule + 1), Obligary.NONE);
        }
        o.require(7, 0);
        Check.due("blockedBy(7), by a rule before it", o.blockedBy(7), 0);
    }

    private static void didNotBefore() {
        Check.sentence("Promise 9: Returns true if it did not before");
        Obligary o = Given.daily(3);
        Check.due("require(0, 1)", o.require(0, 1), true);
        Check.due("require(0, 1) again", o.require(0, 1), false);
        Check.due("require(1, 2)", o.require(1, 2), true);
        Check.due("require(0, 2), before required over another", o.require(0, 2), true);
        Check.due("require(0, 2) again", o.require(0, 2), false);
        Check.due("require(0, 1) a third time", o.require(0, 1), false);
        Check.due("blockedBy(0)", o.blockedBy(0), 1);
        Obligary other = Given.daily(2);
        Check.due("require(1, 0), of another object", other.require(1, 0), true);
    }

    private static void fromNowOn() {
        Check.sentence("Promise 9: from now on");
        Obligary o = Given.daily(2);
        o.finish(0);
        o.require(0, 1);
        Check.due("finished(0), finished before", o.finished(0), 1);
        Check.due("blockedBy(0)", o.blockedBy(0), 1);
        Check.thrown(STATE, "finish(0)", () -> o.finish(0));
        o.finish(1);
        o.finish(1);
        Check.due("finish(0) then", o.finish(0), -1);
        o.pass(100);
        Check.due("blockedBy(0) later", o.blockedBy(0), 1);
    }

    private static void noRuleToRequire() {
        Check.sentence("Promise 9: Throws IndexOutOfBoundsException if there is no such rule, or no rule other");
        for (int count : new int[] {1, 3, 8}) {
            Obligary o = Given.daily(count);
            for (int bad : new int[] {-1, count, 8, 31, 32, 33, LOWEST, HIGHEST}) {
                Check.thrown(INDEX, "require(" + bad + ", 0)", () -> o.require(bad, 0));
                Check.thrown(INDEX, "require(0, " + bad + ")", () -> o.require(0, bad));
            }
            Check.due("blockedBy(0) of " + count, o.blockedBy(0), Obligary.NONE);
        }
    }

    private static void circles() {
        Check.sentence("Promise 9: Throws IllegalStateException if a rule would require itself by this");
        Obligary o = Given.daily(4);
        Check.thrown(STATE, "require(0, 0), directly", () -> o.require(0, 0));
        o.require(0, 1);
        Check.thrown(STATE, "require(1, 0), over one other", () -> o.require(1, 0));
        o.require(1, 2);
        Check.thrown(STATE, "require(2, 0), over two others", () -> o.require(2, 0));
        o.require(3, 0);
        Check.thrown(STATE, "require(2, 3), over three others", () -> o.require(2, 3));
        Check.thrown(STATE, "require(1, 3), over two others", () -> o.require(1, 3));
        Check.thrown(STATE, "require(3, 3), directly", () -> o.require(3, 3));
        Obligary several = Given.daily(5);
        int[][] links = {{0, 1}, {0, 2}, {3, 0}, {3, 4}};
        for (int[] link : links) {
            several.require(link[0], link[1]);
        }
        Check.thrown(STATE, "require(1, 0), required first", () -> several.require(1, 0));
        Check.thrown(STATE, "require(2, 0), required next", () -> several.require(2, 0));
        Check.thrown(STATE, "require(1, 3), over another", () -> several.require(1, 3));
        Check.thrown(STATE, "require(2, 3), over another", () -> several.require(2, 3));
        Check.due("require(1, 2), no circle", several.require(1, 2), true);
        Check.due("require(1, 4), no circle", several.require(1, 4), true);
        Check.thrown(STATE, "require(4, 0), over another", () -> several.require(4, 0));
    }

    private static void requireIndexFirst() {
        Check.sentence("Promise 9: throws IndexOutOfBoundsException, IllegalStateException, in this order");
        Obligary o = Given.daily(2);
        o.require(0, 1);
        for (int bad : new int[] {-1, 2, 8, 32, LOWEST, HIGHEST}) {
            Check.thrown(INDEX, "require(" + bad + ", " + bad + ")", () -> o.require(bad, bad));
            Check.thrown(INDEX, "require(" + bad + ", 0)", () -> o.require(bad, 0));
            Check.thrown(INDEX, "require(1, " + bad + ")", () -> o.require(1, bad));
        }
        Check.thrown(INDEX, "require(2, 2), the next number", () -> o.require(2, 2));
    }

    private static void refusedRequirementsLeaveNothing() {
        Check.sentence("a call that throws changes nothing: require");
        Obligary o = Given.daily(4);
        o.require(0, 1);
        Check.thrown(STATE, "require(1, 0)", () -> o.require(1, 0));
        Check.due("blockedBy(1)", o.blockedBy(1), Obligary.NONE);
        Check.thrown(STATE, "require(2, 2)", () -> o.require(2, 2));
        Check.due("blockedBy(2)", o.blockedBy(2), Obligary.NONE);
        Check.due("require(1, 2)", o.require(1, 2), true);
        Check.thrown(STATE, "require(2, 0)", () -> o.require(2, 0));
        Check.due("require(0, 2), no circle with what was refused", o.require(0, 2), true);
        Check.due("require(2, 3)", o.require(2, 3), true);
        Check.due("require(0, 3)", o.require(0, 3), true);
        Check.due("blockedBy(3)", o.blockedBy(3), Obligary.NONE);
    }

    private static void rules() {
        Check.sentence("Promise 10: Returns how many rules there are");
        Obligary o = new Obligary();
        for (int i = 0; i < 8; i++) {
            Check.due("rules()", o.rules(), i);
            o.addRule(Obligary.EVERY, 7, Obligary.SKIP, 5, 1, 0);
        }
        Check.due("rules() at last", o.rules(), 8);
    }
}
