/** Promises 7 to 10: addRule, setShift, require, rules. */
final class RulesTest {
    private static final Class<IndexOutOfBoundsException> INDEX = IndexOutOfBoundsException.class;
    private static final Class<IllegalArgumentException> ARGUMENT = IllegalArgumentException.class;
    private static final Class<IllegalStateException> STATE = IllegalStateException.class;

    public static void main(String[] args) {
        addRule();
        addRuleRefuses();
        addRuleWhenFull();
        setShift();
        require();
        requireRefusesCircles();
        requireKeepsAllNeeds();
        Check.end();
    }

    private static void addRule() {
        Obligary o = new Obligary();
        int[][] all = {
            {Obligary.EVERY, 1, 0, 0, 1, 0}, {Obligary.EVERY, 60, 1, 719, 9, 99},
            {Obligary.MONTHLY, 0, 2, 0, 1, 0}, {Obligary.MONTHLY, 29, 0, 719, 9, 99},
            {Obligary.NTH, 1, 1, 0, 1, 0}, {Obligary.NTH, 22, 2, 719, 9, 99},
            {Obligary.LAST, 1, 0, 0, 1, 0}, {Obligary.LAST, 22, 1, 719, 9, 99}};
        for (int i = 0; i < all.length; i++) {
            Check.due("rules() before rule " + i, o.rules(), i);
            int[] a = all[i];
            Check.due("addRule " + i, o.addRule(a[0], a[1], a[2], a[3], a[4], a[5]), i);
            Check.due("finished(" + i + ")", o.finished(i), 0);
        }
        Check.due("rules() when full", o.rules(), 8);
    }

    private static void refused(Obligary o, Class<? extends RuntimeException> want, int... a) {
        String call = "addRule" + java.util.Arrays.toString(a);
        Check.thrown(want, call, () -> o.addRule(a[0], a[1], a[2], a[3], a[4], a[5]));
    }

    private static void addRuleRefuses() {
        Obligary o = new Obligary();
        for (int bad : new int[] {-1, 720, Integer.MIN_VALUE, Integer.MAX_VALUE}) {
            refused(o, INDEX, 0, 1, 0, bad, 1, 0);
            refused(o, INDEX, 9, 99, 9, bad, 99, 999);
        }
        for (int bad : new int[] {-1, 4, Integer.MIN_VALUE, Integer.MAX_VALUE}) {
            refused(o, ARGUMENT, bad, 1, 0, 0, 1, 0);
        }
        for (int bad : new int[] {-1, 3, Integer.MIN_VALUE, Integer.MAX_VALUE}) {
            refused(o, ARGUMENT, 0, 1, bad, 0, 1, 0);
        }
        for (int bad : new int[] {-1, 0, 10, Integer.MIN_VALUE, Integer.MAX_VALUE}) {
            refused(o, ARGUMENT, 0, 1, 0, 0, bad, 0);
        }
        for (int bad : new int[] {-1, 100, Integer.MIN_VALUE, Integer.MAX_VALUE}) {
            refused(o, ARGUMENT, 0, 1, 0, 0, 1, bad);
        }
        int[][] badNumbers = {{0, 0}, {0, -1}, {0, 61}, {1, -1}, {1, 30}, {2, 0}, {2, 23}, {3, 0}, {3, 23}};
        for (int[] bad : badNumbers) {
            refused(o, ARGUMENT, bad[0], bad[1], 0, 0, 1, 0);
        }
        for (int kind = 0; kind < 4; kind++) {
            refused(o, ARGUMENT, kind, Integer.MIN_VALUE, 0, 0, 1, 0);
            refused(o, ARGUMENT, kind, Integer.MAX_VALUE, 0, 0, 1, 0);
        }
        Check.due("rules() after calls that threw", o.rules(), 0);
    }

    private static void addRuleWhenFull() {
        Obligary o = new Obligary();
        for (int i = 0; i < 8; i++) {
            o.addRule(Obligary.EVERY, 1, 0, 0, 1, 0);
        }
        refused(o, STATE, 0, 1, 0, 0, 1, 0);
        refused(o, ARGUMENT, 0, 0, 0, 0, 1, 0);
        refused(o, ARGUMENT, 0, 1, 0, 0, 1, 100);
        refused(o, INDEX, 0, 1, 0, 720, 1, 0);
        refused(o, INDEX, 0, 0, 0, -1, 1, 0);
        Check.due("rules() after calls that threw", o.rules(), 8);
        Check.due("load(0) after calls that threw", o.load(0), 8);
    }

    private static void setShift() {
        Obligary o = new Obligary();
        o.addRule(Obligary.EVERY, 7, Obligary.SKIP, 12, 1, 0);
        Check.due("nextDue(0, 0), SKIP", o.nextDue(0, 0), Obligary.NONE);
        Check.due("setShift(0, FOLLOWING)", o.setShift(0, Obligary.FOLLOWING), Obligary.SKIP);
        Check.due("nextDue(0, 0), FOLLOWING", o.nextDue(0, 0), 14);
        Check.due("setShift(0, PRECEDING)", o.setShift(0, Obligary.PRECEDING), Obligary.FOLLOWING);
        Check.due("nextDue(0, 0), PRECEDING", o.nextDue(0, 0), 11);
        Check.due("setShift(0, PRECEDING) again", o.setShift(0, Obligary.PRECEDING), Obligary.PRECEDING);
        for (int bad : new int[] {-1, 3, Integer.MIN_VALUE, Integer.MAX_VALUE}) {
            Check.thrown(ARGUMENT, "setShift(0, " + bad + ")", () -> o.setShift(0, bad));
        }
        for (int bad : new int[] {-1, 1, 8, Integer.MIN_VALUE, Integer.MAX_VALUE}) {
            Check.thrown(INDEX, "setShift(" + bad + ", 0)", () -> o.setShift(bad, 0));
            Check.thrown(INDEX, "setShift(" + bad + ", 3)", () -> o.setShift(bad, 3));
        }
        Check.due("nextDue(0, 0) after calls that threw", o.nextDue(0, 0), 11);
    }

    private static Obligary withDailyRules(int count) {
        Obligary o = new Obligary();
        for (int i = 0; i < count; i++) {
            o.addRule(Obligary.EVERY, 1, 0, 0, 1, 0);
        }
        return o;
    }

    private static void require() {
        Obligary o = withDailyRules(3);
        Check.due("require(0, 1)", o.require(0, 1), true);
        Check.due("require(0, 1) again", o.require(0, 1), false);
        Check.due("require(1, 2)", o.require(1, 2), true);
        Check.due("blockedBy(0): what is required over others does not block", o.blockedBy(0), 1);
        o.finish(2);
        o.finish(1);
        Check.due("blockedBy(0) by nothing that it requires directly", o.blockedBy(0), Obligary.NONE);
        Check.due("require(0, 2), required over others before", o.require(0, 2), true);
        Check.due("require(0, 2) again", o.require(0, 2), false);
        for (int bad : new int[] {-1, 3, 8, 32, Integer.MIN_VALUE, Integer.MAX_VALUE}) {
            Check.thrown(INDEX, "require(" + bad + ", 0)", () -> o.require(bad, 0));
            Check.thrown(INDEX, "require(0, " + bad + ")", () -> o.require(0, bad));
            Check.thrown(INDEX, "require(" + bad + ", " + bad + ")", () -> o.require(bad, bad));
        }
    }

    private static void requireRefusesCircles() {
        Obligary o = withDailyRules(8);
        Check.thrown(STATE, "require(3, 3)", () -> o.require(3, 3));
        Check.due("require(0, 1)", o.require(0, 1), true);
        Check.thrown(STATE, "require(1, 0)", () -> o.require(1, 0));
        // Two chains are joined in their middle, so that what is needed must reach both ends.
        Check.due("require(2, 3)", o.require(2, 3), true);
        Check.due("require(1, 2)", o.require(1, 2), true);
        Check.thrown(STATE, "require(3, 0)", () -> o.require(3, 0));
        Check.thrown(STATE, "require(2, 0)", () -> o.require(2, 0));
        Check.thrown(STATE, "require(3, 1)", () -> o.require(3, 1));
        Check.due("blockedBy(3) after calls that threw", o.blockedBy(3), Obligary.NONE);
        Check.due("require(4, 3)", o.require(4, 3), true);
        Check.due("require(0, 4): two ways to one rule are no circle", o.require(0, 4), true);
        Check.due("require(4, 2)", o.require(4, 2), true);
        Check.thrown(STATE, "require(3, 4)", () -> o.require(3, 4));
        Check.due("require(3, 7)", o.require(3, 7), true);
        Check.thrown(STATE, "require(7, 0)", () -> o.require(7, 0));
        Check.due("require(6, 0)", o.require(6, 0), true);
        Check.thrown(STATE, "require(7, 6)", () -> o.require(7, 6));
        Check.due("require(7, 5)", o.require(7, 5), true);
        Check.due("require(6, 5)", o.require(6, 5), true);
        Check.thrown(STATE, "require(5, 6)", () -> o.require(5, 6));
    }

    private static void requireKeepsAllNeeds() {
        Obligary o = withDailyRules(5);
        o.require(0, 1);
        o.require(0, 2);
        o.require(3, 0);
        o.require(3, 4);
        Check.thrown(STATE, "require(1, 0), required first", () -> o.require(1, 0));
        Check.thrown(STATE, "require(2, 0), required next", () -> o.require(2, 0));
        Check.thrown(STATE, "require(1, 3), over others", () -> o.require(1, 3));
        Check.thrown(STATE, "require(2, 3), over others", () -> o.require(2, 3));
        Check.due("require(1, 2)", o.require(1, 2), true);
        Check.due("require(1, 4)", o.require(1, 4), true);
        Check.thrown(STATE, "require(4, 0), over another", () -> o.require(4, 0));
    }
}
