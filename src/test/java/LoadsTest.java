/** Promises 24 to 27: load, heaviest, level, levelled. */
final class LoadsTest {
    private static final Class<IndexOutOfBoundsException> INDEX = IndexOutOfBoundsException.class;
    private static final Class<IllegalArgumentException> ARGUMENT = IllegalArgumentException.class;
    private static final int EVERY = Given.EVERY, SKIP = Given.SKIP;
    private static final int LOWEST = Integer.MIN_VALUE, HIGHEST = Integer.MAX_VALUE;
    private static final int[] NO_DAYS = {-1, 720, LOWEST, HIGHEST};
    private static final int[] NO_CAPACITIES = {0, 100, -1, LOWEST, HIGHEST};

    public static void main(String[] args) {
        load();
        loadOfNone();
        loadOfAll();
        loadFinishedOrNot();
        loadMoves();
        noDayToLoad();
        heaviest();
        heaviestBothWith();
        heaviestOfSeveral();
        heaviestOfNone();
        heaviestFinishedOrNot();
        noDayForHeaviest();
        spanTurnedForHeaviest();
        levelBothWith();
        levelFinishedOrNot();
        levelInTheOrderOfDueDays();
        levelInTheOrderOfRules();
        levelOnTheLastWorkingDay();
        levelNotOnDaysOff();
        levelFromTheFirstDay();
        levelUpToTheDueDay();
        levelAtMostACapacity();
        levelDoesNotFit();
        levelOfNone();
        levelOfAll();
        levelCapacities();
        levelChangesNothing();
        noDayToLevel();
        argumentsToLevel();
        levelIndexFirst();
        levelled();
        levelledOutside();
        levelledWhatFits();
        levelledEachCallAnew();
        noDayForLevelled();
        argumentsForLevelled();
        levelledIndexFirst();
        Check.end();
    }

    /** Rules of these efforts, each due on the day and no more. */
    private static Obligary onDay(int day, int... efforts) {
        Obligary o = new Obligary();
        for (int effort : efforts) {
            dueOnce(o, day, effort);
        }
        return o;
    }

    /** In the 60 days from the day on, the rule is due on that day alone. */
    private static void dueOnce(Obligary o, int day, int effort) {
        o.addRule(EVERY, 60, SKIP, day, effort, 0);
    }

    private static void laid(Obligary o, int from, int to, int capacity, int firstDay, int... efforts) {
        for (int i = 0; i < efforts.length; i++) {
            int day = firstDay + i;
            String call = "levelled(" + from + ", " + to + ", " + capacity + ", " + day + ")";
            Check.due(call, o.levelled(from, to, capacity, day), efforts[i]);
        }
    }

    private static void load() {
        Check.sentence("Promise 24: the efforts of all duties that are due on it, together");
        Obligary o = onDay(9, 4, 3, 2);
        dueOnce(o, 10, 9);
        Check.due("load(8)", o.load(8), 0);
        Check.due("load(9)", o.load(9), 9);
        Check.due("load(10)", o.load(10), 9);
        Check.due("load(11)", o.load(11), 0);
        Check.due("load(70)", o.load(70), 9);
    }

    private static void loadOfNone() {
        Check.sentence("Promise 24: the efforts together: 0 if there are none");
        Obligary o = new Obligary();
        Check.due("load(0) without rules", o.load(0), 0);
        Check.due("load(719) without rules", o.load(719), 0);
        Obligary daily = Given.daily(8);
        Check.due("load(5), a day off", daily.load(5), 0);
        Check.due("load(719), a day off", daily.load(719), 0);
        daily.holiday(3);
        Check.due("load(3), a holiday", daily.load(3), 0);
    }

    private static void loadOfAll() {
        Check.sentence("Promise 24: the efforts of all duties: of 8 rules on the first and the last day");
        Obligary o = new Obligary();
        for (int rule = 0; rule < 8; rule++) {
            o.addRule(EVERY, 1, SKIP, 0, 9, 0);
        }
        Check.due("load(0)", o.load(0), 72);
        Check.due("load(718)", o.load(718), 72);
    }

    private static void loadFinishedOrNot() {
        Check.sentence("Promise 24: finished or not");
        Obligary o = onDay(9, 4, 3);
        o.finish(0);
        Check.due("load(9)", o.load(9), 7);
        Given.passTo(o, 20);
        o.finish(1);
        Check.due("load(9), all finished", o.load(9), 7);
    }

    private static void loadMoves() {
        Check.sentence("Promise 24: due on it, as due days are when it is asked");
        Obligary o = onDay(9, 4, 3, 2);
        o.holiday(9);
        o.setShift(1, Given.FOLLOWING);
        o.setShift(2, Given.PRECEDING);
        Check.due("load(8)", o.load(8), 2);
        Check.due("load(9)", o.load(9), 0);
        Check.due("load(10)", o.load(10), 3);
        o.holiday(9);
        Check.due("load(9), as before", o.load(9), 9);
        // Two nominal days that are moved to one are one duty.
        Check.due("load(7) of each day, moved on", Given.rule(EVERY, 1, Given.FOLLOWING, 0).load(7), 1);
    }

    private static void noDayToLoad() {
        Check.sentence("Promise 24: Throws IndexOutOfBoundsException if there is no such day");
        for (Obligary o : new Obligary[] {new Obligary(), Given.daily(8)}) {
            for (int bad : NO_DAYS) {
                Check.thrown(INDEX, "load(" + bad + ")", () -> o.load(bad));
            }
        }
    }

    private static void heaviest() {
        Check.sentence("Promise 25: Returns the day with the greatest load");
        Obligary o = onDay(9, 4, 3);
        dueOnce(o, 10, 6);
        dueOnce(o, 11, 8);
        Check.due("heaviest(0, 719)", o.heaviest(0, 719), 11);
        Check.due("heaviest(0, 10), two rules together", o.heaviest(0, 10), 9);
        Check.due("heaviest(10, 11)", o.heaviest(10, 11), 11);
        Check.due("heaviest(11, 12)", o.heaviest(11, 12), 11);
    }

    private static void heaviestBothWith() {
        Check.sentence("Promise 25: from a day to another one, both with");
        Obligary o = onDay(9, 4);
        dueOnce(o, 10, 6);
        dueOnce(o, 11, 8);
        Check.due("heaviest(9, 9)", o.heaviest(9, 9), 9);
        Check.due("heaviest(8, 9), to", o.heaviest(8, 9), 9);
        Check.due("heaviest(9, 10), to", o.heaviest(9, 10), 10);
        Check.due("heaviest(11, 68), from", o.heaviest(11, 68), 11);
        Check.due("heaviest(10, 10)", o.heaviest(10, 10), 10);
        Obligary ends = onDay(0, 9);
        dueOnce(ends, 718, 9);
        Check.due("heaviest(0, 59)", ends.heaviest(0, 59), 0);
        Check.due("heaviest(661, 718)", ends.heaviest(661, 718), 718);
        Check.due("heaviest(661, 719)", ends.heaviest(661, 719), 718);
    }

    private static void heaviestOfSeveral() {
        Check.sentence("Promise 25: of several the first one");
        Obligary o = onDay(9, 7);
        dueOnce(o, 10, 4);
        dueOnce(o, 10, 3);
        dueOnce(o, 11, 7);
        Check.due("heaviest(0, 719)", o.heaviest(0, 719), 9);
        Check.due("heaviest(9, 11)", o.heaviest(9, 11), 9);
        Check.due("heaviest(10, 11)", o.heaviest(10, 11), 10);
        Check.due("heaviest(0, 719) of each day", Given.daily(3).heaviest(0, 719), 0);
        Check.due("heaviest(5, 719) of each day", Given.daily(3).heaviest(5, 719), 7);
    }

    private static void heaviestOfNone() {
        Check.sentence("Promise 25: of several the first one: of days without load too");
        Obligary o = onDay(9, 7);
        Check.due("heaviest(12, 20)", o.heaviest(12, 20), 12);
        Check.due("heaviest(5, 6), days off", o.heaviest(5, 6), 5);
        Check.due("heaviest(719, 719)", o.heaviest(719, 719), 719);
        Check.due("heaviest(0, 0)", o.heaviest(0, 0), 0);
        Check.due("heaviest(0, 719) without rules", new Obligary().heaviest(0, 719), 0);
        Check.due("heaviest(6, 719) without rules", new Obligary().heaviest(6, 719), 6);
    }

    private static void heaviestFinishedOrNot() {
        Check.sentence("Promise 25: the greatest load: of duties finished or not");
        Obligary o = onDay(9, 7);
        dueOnce(o, 10, 4);
        o.finish(0);
        Given.passTo(o, 30);
        Check.due("heaviest(0, 20)", o.heaviest(0, 20), 9);
    }

    private static void noDayForHeaviest() {
        Check.sentence("Promise 25: Throws IndexOutOfBoundsException if there is no day from or to");
        Obligary o = onDay(9, 7);
        for (int bad : NO_DAYS) {
            for (int day : new int[] {0, 9, 719, -1, 720}) {
                Check.thrown(INDEX, "heaviest(" + bad + ", " + day + ")", () -> o.heaviest(bad, day));
                Check.thrown(INDEX, "heaviest(" + day + ", " + bad + ")", () -> o.heaviest(day, bad));
            }
        }
    }

    private static void spanTurnedForHeaviest() {
        Check.sentence("Promise 25: Throws IllegalArgumentException if to is less than from");
        Obligary o = onDay(9, 7);
        Check.thrown(ARGUMENT, "heaviest(10, 9)", () -> o.heaviest(10, 9));
        Check.thrown(ARGUMENT, "heaviest(1, 0)", () -> o.heaviest(1, 0));
        Check.thrown(ARGUMENT, "heaviest(719, 718)", () -> o.heaviest(719, 718));
        Check.thrown(ARGUMENT, "heaviest(719, 0)", () -> o.heaviest(719, 0));
    }

    private static void levelBothWith() {
        Check.sentence("Promise 26: the duties that are due from a day to another one, both with");
        Obligary o = onDay(9, 4);
        dueOnce(o, 10, 5);
        dueOnce(o, 11, 6);
        Check.due("level(9, 11, 1)", o.level(9, 11, 1), 15);
        Check.due("level(10, 11, 1)", o.level(10, 11, 1), 11);
        Check.due("level(9, 10, 1)", o.level(9, 10, 1), 9);
        Check.due("level(10, 10, 1)", o.level(10, 10, 1), 5);
        Check.due("level(0, 8, 1)", o.level(0, 8, 1), 0);
        Check.due("level(12, 68, 1)", o.level(12, 68, 1), 0);
        Obligary ends = onDay(0, 4);
        dueOnce(ends, 718, 5);
        Check.due("level(0, 0, 1)", ends.level(0, 0, 1), 4);
        Check.due("level(718, 718, 1)", ends.level(718, 718, 1), 5);
        Check.due("level(718, 719, 1)", ends.level(718, 719, 1), 5);
    }

    private static void levelFinishedOrNot() {
        Check.sentence("Promise 26: finished or not");
        Obligary o = onDay(9, 4, 3);
        o.finish(0);
        Given.passTo(o, 30);
        o.finish(1);
        Check.due("level(9, 9, 4)", o.level(9, 9, 4), 3);
        laid(o, 9, 9, 4, 9, 4);
    }

    private static void levelInTheOrderOfDueDays() {
        Check.sentence("Promise 26: in the order of upcoming(): of their due days");
        Obligary o = onDay(10, 3, 3);
        dueOnce(o, 9, 2);
        Check.due("level(9, 10, 3)", o.level(9, 10, 3), 3);
        laid(o, 9, 10, 3, 8, 0, 2, 3, 0);
    }

    private static void levelInTheOrderOfRules() {
        Check.sentence("Promise 26: in the order of upcoming(): of their rules");
        Check.due("level(9, 9, 4), 4 before 3", onDay(9, 4, 3).level(9, 9, 4), 3);
        Check.due("level(9, 9, 4), 3 before 4", onDay(9, 3, 4).level(9, 9, 4), 4);
        laid(onDay(9, 4, 3, 2), 7, 9, 5, 7, 0, 5, 4);
        laid(onDay(9, 2, 3, 4), 7, 9, 5, 7, 0, 4, 5);
    }

    private static void levelOnTheLastWorkingDay() {
        Check.sentence("Promise 26: each one is laid on the last working day");
        Obligary o = onDay(9, 4, 4, 4);
        Check.due("level(0, 9, 4)", o.level(0, 9, 4), 0);
        laid(o, 0, 9, 4, 0, 0, 0, 0, 0, 0, 0, 0, 4, 4, 4, 0);
        laid(o, 0, 9, 8, 0, 0, 0, 0, 0, 0, 0, 0, 0, 4, 8, 0);
        laid(o, 0, 9, 99, 0, 0, 0, 0, 0, 0, 0, 0, 0, 0, 12, 0);
        Obligary mixed = onDay(9, 4, 3, 1);
        laid(mixed, 0, 9, 5, 7, 0, 3, 5);
    }

    private static void levelNotOnDaysOff() {
        Check.sentence("Promise 26: on the last working day: not on days off");
        Obligary o = onDay(9, 4, 3, 2);
        o.holiday(8);
        Check.due("level(5, 9, 4)", o.level(5, 9, 4), 2);
        laid(o, 5, 9, 4, 4, 0, 0, 0, 3, 0, 4);
        Check.due("level(4, 9, 4)", o.level(4, 9, 4), 0);
        laid(o, 4, 9, 4, 4, 2, 0, 0, 3, 0, 4);
        o.holiday(7);
        Check.due("level(5, 9, 4), no other working day", o.level(5, 9, 4), 5);
    }

    private static void levelFromTheFirstDay() {
        Check.sentence("Promise 26: from the first of both days");
        Obligary o = onDay(9, 4, 3, 2);
        Check.due("level(9, 9, 4)", o.level(9, 9, 4), 5);
        Check.due("level(8, 9, 4)", o.level(8, 9, 4), 2);
        laid(o, 8, 9, 4, 7, 0, 3, 4);
        Check.due("level(7, 9, 4)", o.level(7, 9, 4), 0);
        laid(o, 7, 9, 4, 6, 0, 2, 3, 4);
        Obligary start = onDay(0, 4, 3);
        Check.due("level(0, 0, 4)", start.level(0, 0, 4), 3);
        Check.due("level(0, 10, 4), later days are free", start.level(0, 10, 4), 3);
        laid(start, 0, 10, 4, 0, 4, 0, 0);
        Obligary second = onDay(1, 4, 3);
        Check.due("level(0, 1, 4), up to day 0", second.level(0, 1, 4), 0);
        laid(second, 0, 1, 4, 0, 3, 4);
    }

    private static void levelUpToTheDueDay() {
        Check.sentence("Promise 26: to its due day");
        Obligary o = onDay(8, 4, 4);
        Check.due("level(8, 11, 4), later days are free", o.level(8, 11, 4), 4);
        laid(o, 8, 11, 4, 8, 4, 0, 0, 0);
    }

    private static void levelAtMostACapacity() {
        Check.sentence("Promise 26: the efforts laid there so far and its own are together at most a capacity");
        Obligary o = onDay(9, 4, 3, 2);
        Check.due("level(9, 9, 9), exactly", o.level(9, 9, 9), 0);
        laid(o, 9, 9, 9, 9, 9);
        Check.due("level(9, 9, 8), one less", o.level(9, 9, 8), 2);
        laid(o, 9, 9, 8, 9, 7);
        Check.due("level(9, 9, 7)", o.level(9, 9, 7), 2);
        Check.due("level(9, 9, 6), a later one still fits", o.level(9, 9, 6), 3);
        laid(o, 9, 9, 6, 9, 6);
        Check.due("level(9, 9, 4)", o.level(9, 9, 4), 5);
        Check.due("level(9, 9, 3)", o.level(9, 9, 3), 6);
        Check.due("level(0, 9, 3), one alone is above it", o.level(0, 9, 3), 4);
        laid(o, 0, 9, 3, 7, 0, 2, 3);
        Check.due("level(0, 9, 2), two alone are above it", o.level(0, 9, 2), 7);
        Check.due("level(0, 9, 1), all alone are above it", o.level(0, 9, 1), 9);
    }

    private static void levelDoesNotFit() {
        Check.sentence("Promise 26: if there is none, it does not fit. Returns the efforts that do not fit, together");
        Obligary o = new Obligary();
        o.addRule(EVERY, 1, SKIP, 0, 3, 0);
        o.addRule(EVERY, 2, SKIP, 0, 2, 0);
        Check.due("level(0, 4, 4)", o.level(0, 4, 4), 6);
        laid(o, 0, 4, 4, 0, 3, 3, 3, 3, 3, 0);
        Check.due("level(0, 4, 5)", o.level(0, 4, 5), 0);
        laid(o, 0, 4, 5, 0, 5, 3, 5, 3, 5, 0);
        o.addRule(EVERY, 4, SKIP, 0, 2, 0);
        Check.due("level(0, 4, 5) with a third rule", o.level(0, 4, 5), 2);
        laid(o, 0, 4, 5, 0, 5, 3, 5, 5, 5, 0);
        Check.due("level(4, 11, 5), a weekend between", o.level(4, 11, 5), 2);
    }

    private static void levelOfNone() {
        Check.sentence("Promise 26: Returns the efforts that do not fit: 0 if there are none");
        Check.due("level(0, 719, 1) without rules", new Obligary().level(0, 719, 1), 0);
        Check.due("level(5, 6, 1), days off", Given.daily(8).level(5, 6, 1), 0);
        Check.due("level(719, 719, 1)", Given.daily(8).level(719, 719, 1), 0);
        Check.due("level(0, 719, 8)", Given.daily(8).level(0, 719, 8), 0);
    }

    private static void levelOfAll() {
        Check.sentence("Promise 26: the efforts that do not fit, together: of 8 rules on all days");
        Obligary o = Given.daily(8);
        Check.due("level(0, 719, 1)", o.level(0, 719, 1), 7 * 515);
        Check.due("level(0, 719, 7)", o.level(0, 719, 7), 515);
        Obligary heavy = new Obligary();
        for (int rule = 0; rule < 8; rule++) {
            heavy.addRule(EVERY, 1, SKIP, 0, 9, 0);
        }
        Check.due("level(0, 719, 1), none fits", heavy.level(0, 719, 1), 72 * 515);
        Check.due("level(0, 719, 71)", heavy.level(0, 719, 71), 9 * 515);
        Check.due("level(0, 719, 72)", heavy.level(0, 719, 72), 0);
    }

    private static void levelCapacities() {
        Check.sentence("Promise 26: capacity: 1 to 99");
        Obligary o = onDay(9, 9, 9, 9, 9, 9, 9, 9, 9);
        for (int capacity = 1; capacity <= 99; capacity++) {
            int fitting = Math.min(8, capacity / 9);
            Check.due("level(9, 9, " + capacity + ")", o.level(9, 9, capacity), 72 - 9 * fitting);
            Check.due("levelled(9, 9, " + capacity + ", 9)", o.levelled(9, 9, capacity, 9), 9 * fitting);
        }
        Obligary one = onDay(9, 1, 1);
        Check.due("level(9, 9, 1) of efforts of 1", one.level(9, 9, 1), 1);
        Check.due("level(8, 9, 1) of efforts of 1", one.level(8, 9, 1), 0);
    }

    private static void levelChangesNothing() {
        Check.sentence("Promise 26: Nothing changes");
        Obligary o = onDay(9, 4, 3, 2);
        for (int times = 0; times < 3; times++) {
            Check.due("level(7, 9, 4)", o.level(7, 9, 4), 0);
            Check.due("levelled(7, 9, 4, 8)", o.levelled(7, 9, 4, 8), 3);
            Check.due("level(9, 9, 4)", o.level(9, 9, 4), 5);
        }
        Check.due("load(9)", o.load(9), 9);
        Check.due("load(8)", o.load(8), 0);
        Check.due("open(1)", o.open(1), 9);
        Check.due("finished(0)", o.finished(0), 0);
        Check.due("upcoming(0, 1)", o.upcoming(0, 1), 91);
        Check.due("heaviest(0, 719)", o.heaviest(0, 719), 9);
        Check.due("today()", o.today(), 0);
    }

    private static void noDayToLevel() {
        Check.sentence("Promise 26: Throws IndexOutOfBoundsException if there is no day from or to");
        Obligary o = onDay(9, 4);
        for (int bad : NO_DAYS) {
            for (int day : new int[] {0, 9, 719}) {
                Check.thrown(INDEX, "level(" + bad + ", " + day + ", 1)", () -> o.level(bad, day, 1));
                Check.thrown(INDEX, "level(" + day + ", " + bad + ", 99)", () -> o.level(day, bad, 99));
            }
            for (int other : NO_DAYS) {
                Check.thrown(INDEX, "level(" + bad + ", " + other + ", 1)", () -> o.level(bad, other, 1));
            }
        }
    }

    private static void argumentsToLevel() {
        Check.sentence("Promise 26: IllegalArgumentException if to is less than from, or capacity is out of range");
        Obligary o = onDay(9, 4);
        int[][] turned = {{1, 0}, {10, 9}, {719, 718}, {719, 0}};
        for (int[] span : turned) {
            for (int capacity : new int[] {1, 99, 0, 100}) {
                Check.thrown(ARGUMENT, "level(" + span[0] + ", " + span[1] + ", " + capacity + ")",
                        () -> o.level(span[0], span[1], capacity));
            }
        }
        for (int bad : NO_CAPACITIES) {
            Check.thrown(ARGUMENT, "level(0, 719, " + bad + ")", () -> o.level(0, 719, bad));
            Check.thrown(ARGUMENT, "level(5, 5, " + bad + "), nothing due", () -> o.level(5, 5, bad));
            Check.thrown(ARGUMENT, "level(..) without rules", () -> new Obligary().level(0, 0, bad));
        }
    }

    private static void levelIndexFirst() {
        Check.sentence("Promise 26: throws IndexOutOfBoundsException, IllegalArgumentException, in this order");
        Obligary o = onDay(9, 4);
        for (int bad : NO_DAYS) {
            for (int capacity : new int[] {0, 100, LOWEST, HIGHEST}) {
                Check.thrown(INDEX, "level(" + bad + ", 9, " + capacity + ")", () -> o.level(bad, 9, capacity));
                Check.thrown(INDEX, "level(9, " + bad + ", " + capacity + ")", () -> o.level(9, bad, capacity));
            }
            Check.thrown(INDEX, "level(719, " + bad + ", 1)", () -> o.level(719, bad, 1));
            Check.thrown(INDEX, "level(" + bad + ", 0, 1)", () -> o.level(bad, 0, 1));
        }
    }

    private static void levelled() {
        Check.sentence("Promise 27: Returns the efforts that are laid on a day when duties are levelled so");
        Obligary o = onDay(9, 4, 3, 2);
        laid(o, 7, 9, 4, 7, 2, 3, 4);
        laid(o, 7, 9, 5, 7, 0, 5, 4);
        laid(o, 7, 9, 6, 7, 0, 3, 6);
        laid(o, 7, 9, 7, 7, 0, 2, 7);
        laid(o, 7, 9, 9, 7, 0, 0, 9);
        laid(o, 9, 9, 9, 9, 9);
        laid(onDay(0, 5), 0, 0, 5, 0, 5);
        laid(onDay(718, 5), 718, 719, 5, 717, 0, 5, 0);
    }

    private static void levelledOutside() {
        Check.sentence("Promise 27: 0 for a day that is not from from to to");
        Obligary o = Given.daily(8);
        Check.due("levelled(8, 10, 99, 7)", o.levelled(8, 10, 99, 7), 0);
        Check.due("levelled(8, 10, 99, 8)", o.levelled(8, 10, 99, 8), 8);
        Check.due("levelled(8, 10, 99, 10)", o.levelled(8, 10, 99, 10), 8);
        Check.due("levelled(8, 10, 99, 11)", o.levelled(8, 10, 99, 11), 0);
        Check.due("levelled(8, 10, 99, 0)", o.levelled(8, 10, 99, 0), 0);
        Check.due("levelled(8, 10, 99, 718)", o.levelled(8, 10, 99, 718), 0);
        Check.due("levelled(8, 10, 1, 7), days before are free", o.levelled(8, 10, 1, 7), 0);
        Check.due("levelled(0, 719, 99, 7), before", o.levelled(0, 719, 99, 7), 8);
        Check.due("levelled(8, 10, 99, 7), after a wider span", o.levelled(8, 10, 99, 7), 0);
        Check.due("levelled(0, 0, 99, 719)", o.levelled(0, 0, 99, 719), 0);
        Check.due("levelled(719, 719, 99, 0)", o.levelled(719, 719, 99, 0), 0);
    }

    private static void levelledWhatFits() {
        Check.sentence("Promise 27: what is laid and what does not fit are all efforts together");
        Obligary o = Given.daily(5);
        dueOnce(o, 11, 9);
        dueOnce(o, 8, 7);
        for (int capacity : new int[] {1, 4, 5, 6, 9, 12, 99}) {
            int together = o.level(7, 18, capacity);
            for (int day = 7; day <= 18; day++) {
                int laid = o.levelled(7, 18, capacity, day);
                together += laid;
                Check.due("levelled(7, 18, " + capacity + ", " + day + ") at most", laid <= capacity, true);
            }
            Check.due("all efforts of 10 days with capacity " + capacity, together, 5 * 10 + 9 + 7);
            Check.due("levelled(7, 18, " + capacity + ", 12), a day off", o.levelled(7, 18, capacity, 12), 0);
        }
        Check.due("levelled(7, 18, 99, 19)", o.levelled(7, 18, 99, 19), 0);
    }

    private static void levelledEachCallAnew() {
        Check.sentence("Promise 27: when duties are levelled so: no call before it matters");
        Obligary o = onDay(9, 4, 3, 2);
        for (int times = 0; times < 3; times++) {
            laid(o, 7, 9, 4, 7, 2, 3, 4);
            laid(o, 8, 9, 4, 7, 0, 3, 4);
            Check.due("level(0, 719, 3)", o.level(0, 719, 3), 4 * 9);
        }
        o.holiday(9);
        laid(o, 7, 9, 4, 7, 0, 0, 0);
        o.holiday(9);
        laid(o, 7, 9, 4, 7, 2, 3, 4);
    }

    private static void noDayForLevelled() {
        Check.sentence("Promise 27: Throws IndexOutOfBoundsException if there is no day from, to or day");
        Obligary o = onDay(9, 4);
        for (int bad : NO_DAYS) {
            Check.thrown(INDEX, "levelled(" + bad + ", 9, 1, 9)", () -> o.levelled(bad, 9, 1, 9));
            Check.thrown(INDEX, "levelled(9, " + bad + ", 1, 9)", () -> o.levelled(9, bad, 1, 9));
            Check.thrown(INDEX, "levelled(9, 9, 1, " + bad + ")", () -> o.levelled(9, 9, 1, bad));
            Check.thrown(INDEX, "levelled(0, 719, 99, " + bad + ")", () -> o.levelled(0, 719, 99, bad));
            Check.thrown(INDEX, "levelled(" + bad + ", " + bad + ", 1, 9)", () -> o.levelled(bad, bad, 1, 9));
            Check.thrown(INDEX, "levelled(" + bad + ", " + bad + ", 1, " + bad + ")",
                    () -> o.levelled(bad, bad, 1, bad));
        }
    }

    private static void argumentsForLevelled() {
        Check.sentence("Promise 27: IllegalArgumentException if to is less than from, or capacity is out of range");
        Obligary o = onDay(9, 4);
        int[][] turned = {{1, 0}, {10, 9}, {719, 718}, {719, 0}};
        for (int[] span : turned) {
            for (int day : new int[] {0, 9, 719}) {
                Check.thrown(ARGUMENT, "levelled(" + span[0] + ", " + span[1] + ", 99, " + day + ")",
                        () -> o.levelled(span[0], span[1], 99, day));
            }
        }
        for (int bad : NO_CAPACITIES) {
            Check.thrown(ARGUMENT, "levelled(0, 9, " + bad + ", 9)", () -> o.levelled(0, 9, bad, 9));
            Check.thrown(ARGUMENT, "levelled(0, 8, " + bad + ", 9), outside", () -> o.levelled(0, 8, bad, 9));
            Check.thrown(ARGUMENT, "levelled(9, 8, " + bad + ", 9), turned", () -> o.levelled(9, 8, bad, 9));
        }
        Check.due("levelled(0, 9, 1, 9)", o.levelled(0, 9, 1, 9), 0);
        Check.due("levelled(0, 9, 99, 9)", o.levelled(0, 9, 99, 9), 4);
    }

    private static void levelledIndexFirst() {
        Check.sentence("Promise 27: throws IndexOutOfBoundsException, IllegalArgumentException, in this order");
        Obligary o = onDay(9, 4);
        for (int bad : NO_DAYS) {
            Check.thrown(INDEX, "levelled(10, 9, 1, " + bad + "), turned", () -> o.levelled(10, 9, 1, bad));
            Check.thrown(INDEX, "levelled(719, " + bad + ", 1, 9), turned", () -> o.levelled(719, bad, 1, 9));
            Check.thrown(INDEX, "levelled(" + bad + ", 0, 1, 9), turned", () -> o.levelled(bad, 0, 1, 9));
            for (int capacity : NO_CAPACITIES) {
                Check.thrown(INDEX, "levelled(9, 9, " + capacity + ", " + bad + ")",
                        () -> o.levelled(9, 9, capacity, bad));
                Check.thrown(INDEX, "levelled(10, 9, " + capacity + ", " + bad + ")",
                        () -> o.levelled(10, 9, capacity, bad));
                Check.thrown(INDEX, "levelled(9, " + bad + ", " + capacity + ", 9)",
                        () -> o.levelled(9, bad, capacity, 9));
                Check.thrown(INDEX, "levelled(" + bad + ", 9, " + capacity + ", 9)",
                        () -> o.levelled(bad, 9, capacity, 9));
            }
        }
    }
}
