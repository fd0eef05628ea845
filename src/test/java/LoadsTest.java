/** Promises 24 to 27: load, heaviest, level, levelled. */
final class LoadsTest {
    private static final Class<IndexOutOfBoundsException> INDEX = IndexOutOfBoundsException.class;
    private static final Class<IllegalArgumentException> ARGUMENT = IllegalArgumentException.class;
    private static final int[] NO_DAYS = {-1, 720, Integer.MIN_VALUE, Integer.MAX_VALUE};

    public static void main(String[] args) {
        load();
        heaviest();
        levelOnEarlierDays();
        levelWithinTheSpan();
        levelAroundDaysOff();
        levelTakesWhatFitsLater();
        wrongDays();
        wrongSpansAndCapacities();
        Check.end();
    }

    private static Obligary withEffortsOnDay9(int... efforts) {
        Obligary o = new Obligary();
        for (int effort : efforts) {
            o.addRule(Obligary.EVERY, 60, Obligary.SKIP, 9, effort, 0);
        }
        return o;
    }

    private static void load() {
        Obligary o = withEffortsOnDay9(4, 3, 2);
        Check.due("load(8)", o.load(8), 0);
        Check.due("load(9)", o.load(9), 9);
        Check.due("load(719)", o.load(719), 0);
        o.pass(9);
        o.finish(0);
        Check.due("load(9), finished or not", o.load(9), 9);
        o.holiday(9);
        Check.due("load(9), skipped", o.load(9), 0);
        o.setShift(1, Obligary.FOLLOWING);
        o.setShift(2, Obligary.PRECEDING);
        Check.due("load(10), moved", o.load(10), 3);
        Check.due("load(8), moved", o.load(8), 2);
    }

    private static void heaviest() {
        Obligary o = withEffortsOnDay9(4, 3);
        o.addRule(Obligary.EVERY, 60, Obligary.SKIP, 10, 7, 0);
        o.addRule(Obligary.EVERY, 60, Obligary.SKIP, 11, 8, 0);
        Check.due("heaviest(0, 719)", o.heaviest(0, 719), 11);
        Check.due("heaviest(0, 10): of several the first", o.heaviest(0, 10), 9);
        Check.due("heaviest(10, 11)", o.heaviest(10, 11), 11);
        Check.due("heaviest(10, 10)", o.heaviest(10, 10), 10);
        Check.due("heaviest(12, 20): no load at all", o.heaviest(12, 20), 12);
        Check.due("heaviest(719, 719)", o.heaviest(719, 719), 719);
    }

    private static void laid(Obligary o, int from, int to, int capacity, int firstDay, int... efforts) {
        for (int i = 0; i < efforts.length; i++) {
            int day = firstDay + i;
            String call = "levelled(" + from + ", " + to + ", " + capacity + ", " + day + ")";
            Check.due(call, o.levelled(from, to, capacity, day), efforts[i]);
        }
    }

    private static void levelOnEarlierDays() {
        Obligary o = withEffortsOnDay9(4, 3, 2);
        Check.due("level(7, 9, 5)", o.level(7, 9, 5), 0);
        laid(o, 7, 9, 5, 6, 0, 0, 5, 4, 0);
        Check.due("level(7, 9, 4)", o.level(7, 9, 4), 0);
        laid(o, 7, 9, 4, 7, 2, 3, 4);
        Check.due("level(7, 9, 99)", o.level(7, 9, 99), 0);
        laid(o, 7, 9, 99, 7, 0, 0, 9);
        Check.due("level(7, 9, 9): exactly the capacity", o.level(7, 9, 9), 0);
        laid(o, 7, 9, 9, 7, 0, 0, 9);
        o.pass(20);
        o.finish(0);
        laid(o, 7, 9, 4, 7, 2, 3, 4);
        Check.due("finished(1): nothing changes", o.finished(1), 0);
        Check.due("load(9): nothing changes", o.load(9), 9);
    }

    private static void levelWithinTheSpan() {
        Obligary o = withEffortsOnDay9(4, 3, 2);
        Check.due("level(9, 9, 5)", o.level(9, 9, 5), 5);
        Check.due("level(9, 9, 6): a later one still fits", o.level(9, 9, 6), 3);
        laid(o, 9, 9, 6, 8, 0, 6, 0);
        Check.due("level(0, 9, 3): one is above the capacity", o.level(0, 9, 3), 4);
        laid(o, 0, 9, 3, 7, 0, 2, 3);
        Check.due("level(0, 9, 1): all are above the capacity", o.level(0, 9, 1), 9);
        Check.due("level(0, 8, 1): none is due", o.level(0, 8, 1), 0);
        Check.due("level(10, 68, 1): none is due", o.level(10, 68, 1), 0);
        Check.due("level(0, 129, 3): two rounds", o.level(0, 129, 3), 8);
        Check.due("level(9, 129, 3): two rounds, less room", o.level(9, 129, 3), 10);
    }

    private static void levelAroundDaysOff() {
        Obligary o = withEffortsOnDay9(4, 3, 2);
        o.holiday(8);
        Check.due("level(5, 9, 4)", o.level(5, 9, 4), 2);
        laid(o, 5, 9, 4, 4, 0, 0, 0, 3, 0, 4);
        Check.due("level(4, 9, 4)", o.level(4, 9, 4), 0);
        laid(o, 4, 9, 4, 4, 2, 0, 0, 3, 0, 4);
        o.holiday(7);
        Check.due("level(5, 9, 4), no other day", o.level(5, 9, 4), 5);
    }

    private static void levelTakesWhatFitsLater() {
        Obligary o = new Obligary();
        o.addRule(Obligary.EVERY, 1, Obligary.SKIP, 0, 3, 0);
        o.addRule(Obligary.EVERY, 2, Obligary.SKIP, 0, 2, 0);
        // Days 0 to 4 hold 3 each; the 2 of day 0 fits nowhere, those of days 2 and 4 go back.
        Check.due("level(0, 4, 4)", o.level(0, 4, 4), 6);
        laid(o, 0, 4, 4, 0, 3, 3, 3, 3, 3, 0);
        Check.due("level(0, 4, 5)", o.level(0, 4, 5), 0);
        laid(o, 0, 4, 5, 0, 5, 3, 5, 3, 5, 0);
        o.addRule(Obligary.EVERY, 4, Obligary.SKIP, 0, 2, 0);
        Check.due("level(0, 4, 5) with a third rule", o.level(0, 4, 5), 2);
        laid(o, 0, 4, 5, 0, 5, 3, 5, 5, 5, 0);
        Check.due("level(4, 11, 5), the weekend between", o.level(4, 11, 5), 2);
    }

    private static void wrongDays() {
        Obligary o = withEffortsOnDay9(4);
        for (int bad : NO_DAYS) {
            Check.thrown(INDEX, "load(" + bad + ")", () -> o.load(bad));
            Check.thrown(INDEX, "heaviest(" + bad + ", 0)", () -> o.heaviest(bad, 0));
            Check.thrown(INDEX, "heaviest(0, " + bad + ")", () -> o.heaviest(0, bad));
            Check.thrown(INDEX, "level(" + bad + ", 0, 0)", () -> o.level(bad, 0, 0));
            Check.thrown(INDEX, "level(0, " + bad + ", 100)", () -> o.level(0, bad, 100));
            Check.thrown(INDEX, "levelled(" + bad + ", 0, 1, 0)", () -> o.levelled(bad, 0, 1, 0));
            Check.thrown(INDEX, "levelled(0, " + bad + ", 1, 0)", () -> o.levelled(0, bad, 1, 0));
            Check.thrown(INDEX, "levelled(0, 0, 1, " + bad + ")", () -> o.levelled(0, 0, 1, bad));
            Check.thrown(INDEX, "levelled(5, 4, 0, " + bad + ")", () -> o.levelled(5, 4, 0, bad));
        }
    }

    private static void wrongSpansAndCapacities() {
        Obligary o = withEffortsOnDay9(4);
        Check.thrown(ARGUMENT, "heaviest(10, 9)", () -> o.heaviest(10, 9));
        Check.thrown(ARGUMENT, "level(10, 9, 1)", () -> o.level(10, 9, 1));
        Check.thrown(ARGUMENT, "levelled(10, 9, 1, 9)", () -> o.levelled(10, 9, 1, 9));
        for (int bad : new int[] {-1, 0, 100, Integer.MIN_VALUE, Integer.MAX_VALUE}) {
            Check.thrown(ARGUMENT, "level(0, 9, " + bad + ")", () -> o.level(0, 9, bad));
            Check.thrown(ARGUMENT, "levelled(0, 9, " + bad + ", 9)", () -> o.levelled(0, 9, bad, 9));
        }
        Check.due("level(0, 9, 99)", o.level(0, 9, 99), 0);
        Check.due("levelled(0, 9, 99, 9)", o.levelled(0, 9, 99, 9), 4);
        Check.due("levelled(0, 8, 99, 9), outside", o.levelled(0, 8, 99, 9), 0);
        Check.due("levelled(10, 719, 99, 9), outside", o.levelled(10, 719, 99, 9), 0);
    }
}
