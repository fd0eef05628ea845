/** Promises 1 to 6: a new object, holiday, isWorking, workingDays, pass, today. */
final class CalendarTest {
    private static final Class<IndexOutOfBoundsException> INDEX = IndexOutOfBoundsException.class;
    private static final Class<IllegalArgumentException> ARGUMENT = IllegalArgumentException.class;
    private static final Class<IllegalStateException> STATE = IllegalStateException.class;
    private static final int[] NO_DAYS = {-1, 720, Integer.MIN_VALUE, Integer.MAX_VALUE};

    public static void main(String[] args) {
        newWithoutRules();
        newWithoutHolidays();
        holiday();
        holidayTakenBack();
        holidayOnWeekends();
        noSuchHoliday();
        isWorking();
        noSuchWorkingDay();
        workingDaysBothWith();
        workingDaysOfNone();
        workingDaysOfAll();
        noSuchSpan();
        spanTurned();
        passOneToHundred();
        passOutOfRange();
        passToTheLastDay();
        passAboveTheLastDay();
        passArgumentBeforeState();
        today();
        Check.end();
    }

    private static void newWithoutRules() {
        Check.sentence("Promise 1: Creates a calendar without rules");
        Obligary used = Given.daily(8);
        used.finish(0);
        Obligary o = new Obligary();
        Check.due("rules()", o.rules(), 0);
        Check.due("upcoming(0, 0)", o.upcoming(0, 0), Obligary.NONE);
        Check.due("order(719, 0)", o.order(719, 0), Obligary.NONE);
        Check.due("overdue()", o.overdue(), 0);
        Check.due("load(0)", o.load(0), 0);
        Check.due("heaviest(3, 719)", o.heaviest(3, 719), 3);
        Check.due("level(0, 719, 1)", o.level(0, 719, 1), 0);
        Check.due("levelled(0, 719, 99, 0)", o.levelled(0, 719, 99, 0), 0);
        Check.thrown(INDEX, "open(0)", () -> o.open(0));
        Check.due("addRule(..), the first", o.addRule(Obligary.EVERY, 1, Obligary.SKIP, 0, 1, 0), 0);
    }

    private static void newWithoutHolidays() {
        Check.sentence("Promise 1: Creates a calendar without holidays");
        Obligary used = new Obligary();
        used.holiday(3);
        used.pass(7);
        Obligary o = new Obligary();
        Check.due("workingDays(0, 719)", o.workingDays(0, 719), 515);
        for (int monday = 0; monday < 720; monday += 7) {
            int saturday = Math.min(719, monday + 5);
            Check.due("workingDays(" + monday + ", " + saturday + ")", o.workingDays(monday, saturday), 5);
        }
        Check.due("today()", o.today(), 0);
    }

    private static void holiday() {
        Check.sentence("Promise 2: Makes a day a holiday .. Returns true if it is a holiday then");
        Obligary o = new Obligary();
        for (int day : new int[] {0, 1, 4, 360, 717, 718}) {
            Check.due("holiday(" + day + ")", o.holiday(day), true);
            Check.due("isWorking(" + day + ")", o.isWorking(day), false);
        }
        Check.due("isWorking(2), beside a holiday", o.isWorking(2), true);
        Check.due("isWorking(359), beside a holiday", o.isWorking(359), true);
        Check.due("isWorking(361), beside a holiday", o.isWorking(361), true);
        Check.due("isWorking(716), beside a holiday", o.isWorking(716), true);
        Check.due("workingDays(0, 719)", o.workingDays(0, 719), 509);
    }

    private static void holidayTakenBack() {
        Check.sentence("Promise 2: or takes that back if it is one");
        Obligary o = new Obligary();
        Given.holidays(o, 0, 1, 718);
        Check.due("holiday(0) again", o.holiday(0), false);
        Check.due("isWorking(0)", o.isWorking(0), true);
        Check.due("isWorking(1), another holiday", o.isWorking(1), false);
        Check.due("holiday(718) again", o.holiday(718), false);
        Check.due("isWorking(718)", o.isWorking(718), true);
        Check.due("holiday(0) a third time", o.holiday(0), true);
        Check.due("isWorking(0) after the third time", o.isWorking(0), false);
        Check.due("workingDays(0, 719)", o.workingDays(0, 719), 513);
    }

    private static void holidayOnWeekends() {
        Check.sentence("Promise 2: Makes a day a holiday: a Saturday or Sunday too");
        Obligary o = new Obligary();
        for (int day : new int[] {5, 6, 719}) {
            Check.due("holiday(" + day + ")", o.holiday(day), true);
            Check.due("isWorking(" + day + ") on a holiday", o.isWorking(day), false);
            Check.due("holiday(" + day + ") again", o.holiday(day), false);
            Check.due("isWorking(" + day + ") on a weekend", o.isWorking(day), false);
        }
        Check.due("workingDays(0, 719)", o.workingDays(0, 719), 515);
    }

    private static void noSuchHoliday() {
        Check.sentence("Promise 2: Throws IndexOutOfBoundsException if there is no such day");
        Obligary o = new Obligary();
        for (int day : NO_DAYS) {
            Check.thrown(INDEX, "holiday(" + day + ")", () -> o.holiday(day));
        }
        Check.due("workingDays(0, 719)", o.workingDays(0, 719), 515);
    }

    private static void isWorking() {
        Check.sentence("Promise 3: Returns whether a day is a working day");
        Obligary o = new Obligary();
        boolean[] working = {true, true, true, true, true, false, false, true};
        for (int day = 0; day < working.length; day++) {
            Check.due("isWorking(" + day + ")", o.isWorking(day), working[day]);
        }
        Check.due("isWorking(718)", o.isWorking(718), true);
        Check.due("isWorking(719)", o.isWorking(719), false);
    }

    private static void noSuchWorkingDay() {
        Check.sentence("Promise 3: Throws IndexOutOfBoundsException if there is no such day");
        Obligary o = new Obligary();
        for (int day : NO_DAYS) {
            Check.thrown(INDEX, "isWorking(" + day + ")", () -> o.isWorking(day));
        }
    }

    private static void workingDaysBothWith() {
        Check.sentence("Promise 4: from a day to another one, both with");
        Obligary o = new Obligary();
        Check.due("workingDays(0, 0)", o.workingDays(0, 0), 1);
        Check.due("workingDays(0, 1)", o.workingDays(0, 1), 2);
        Check.due("workingDays(3, 4)", o.workingDays(3, 4), 2);
        Check.due("workingDays(4, 5)", o.workingDays(4, 5), 1);
        Check.due("workingDays(6, 7)", o.workingDays(6, 7), 1);
        Check.due("workingDays(4, 7)", o.workingDays(4, 7), 2);
        Check.due("workingDays(0, 13)", o.workingDays(0, 13), 10);
        Check.due("workingDays(718, 718)", o.workingDays(718, 718), 1);
        Check.due("workingDays(718, 719)", o.workingDays(718, 719), 1);
        Given.holidays(o, 7, 13);
        Check.due("workingDays(0, 13) with holidays", o.workingDays(0, 13), 9);
    }

    private static void workingDaysOfNone() {
        Check.sentence("Promise 4: how many working days there are: 0 if there are none");
        Obligary o = new Obligary();
        Check.due("workingDays(5, 5)", o.workingDays(5, 5), 0);
        Check.due("workingDays(5, 6)", o.workingDays(5, 6), 0);
        Check.due("workingDays(719, 719)", o.workingDays(719, 719), 0);
        Given.holidays(o, 0, 7);
        Check.due("workingDays(0, 0) on a holiday", o.workingDays(0, 0), 0);
        Check.due("workingDays(5, 7) with a holiday", o.workingDays(5, 7), 0);
    }

    private static void workingDaysOfAll() {
        Check.sentence("Promise 4: how many working days there are: of all days");
        Obligary o = new Obligary();
        Check.due("workingDays(0, 719)", o.workingDays(0, 719), 515);
        Given.holidays(o, 0, 718, 719);
        Check.due("workingDays(0, 719) with holidays", o.workingDays(0, 719), 513);
        Check.due("workingDays(1, 717)", o.workingDays(1, 717), 513);
    }

    private static void noSuchSpan() {
        Check.sentence("Promise 4: Throws IndexOutOfBoundsException if there is no day from or to");
        Obligary o = new Obligary();
        for (int bad : NO_DAYS) {
            for (int day : new int[] {0, 5, 719}) {
                Check.thrown(INDEX, "workingDays(" + bad + ", " + day + ")", () -> o.workingDays(bad, day));
                Check.thrown(INDEX, "workingDays(" + day + ", " + bad + ")", () -> o.workingDays(day, bad));
            }
            for (int other : NO_DAYS) {
                Check.thrown(INDEX, "workingDays(" + bad + ", " + other + ")", () -> o.workingDays(bad, other));
            }
        }
    }

    private static void spanTurned() {
        Check.sentence("Promise 4: Throws IllegalArgumentException if to is less than from");
        Obligary o = new Obligary();
        Check.thrown(ARGUMENT, "workingDays(1, 0)", () -> o.workingDays(1, 0));
        Check.thrown(ARGUMENT, "workingDays(719, 0)", () -> o.workingDays(719, 0));
        Check.thrown(ARGUMENT, "workingDays(719, 718)", () -> o.workingDays(719, 718));
    }

    private static void passOneToHundred() {
        Check.sentence("Promise 5: days: 1 to 100 .. Returns today then");
        Obligary o = new Obligary();
        Check.due("pass(1)", o.pass(1), 1);
        Check.due("today()", o.today(), 1);
        Check.due("pass(100)", o.pass(100), 101);
        Check.due("today()", o.today(), 101);
        Check.due("pass(99)", o.pass(99), 200);
        Check.due("pass(2)", o.pass(2), 202);
        Check.due("today()", o.today(), 202);
        Check.due("pass(3), to a Sunday", o.pass(3), 205);
    }

    private static void passOutOfRange() {
        Check.sentence("Promise 5: Throws IllegalArgumentException if days is out of range");
        Obligary o = new Obligary();
        for (int bad : new int[] {0, -1, 101, 719, 720, Integer.MIN_VALUE, Integer.MAX_VALUE}) {
            Check.thrown(ARGUMENT, "pass(" + bad + ")", () -> o.pass(bad));
            Check.due("today() after pass(" + bad + ")", o.today(), 0);
        }
    }

    private static void passToTheLastDay() {
        Check.sentence("Promise 5: if today would be above 719: not yet at 719");
        Obligary far = new Obligary();
        Given.passTo(far, 619);
        Check.due("pass(100) on day 619", far.pass(100), 719);
        Check.due("today()", far.today(), 719);
        Obligary near = new Obligary();
        Given.passTo(near, 718);
        Check.due("pass(1) on day 718", near.pass(1), 719);
        Check.due("today()", near.today(), 719);
    }

    private static void passAboveTheLastDay() {
        Check.sentence("Promise 5: Throws IllegalStateException if today would be above 719");
        int[][] todayAndDays = {{719, 1}, {719, 100}, {718, 2}, {700, 20}, {700, 100}, {620, 100}};
        for (int[] pair : todayAndDays) {
            Obligary o = new Obligary();
            Given.passTo(o, pair[0]);
            Check.thrown(STATE, "pass(" + pair[1] + ") on day " + pair[0], () -> o.pass(pair[1]));
            Check.due("today() after the call that threw", o.today(), pair[0]);
        }
    }

    private static void passArgumentBeforeState() {
        Check.sentence("Promise 5: throws IllegalArgumentException, IllegalStateException, in this order");
        Obligary o = new Obligary();
        Given.passTo(o, 719);
        for (int bad : new int[] {101, 720, Integer.MAX_VALUE}) {
            Check.thrown(ARGUMENT, "pass(" + bad + ") on day 719", () -> o.pass(bad));
        }
        for (int bad : new int[] {0, -1, Integer.MIN_VALUE}) {
            Check.thrown(ARGUMENT, "pass(" + bad + ") on day 719", () -> o.pass(bad));
        }
        Check.due("today()", o.today(), 719);
    }

    private static void today() {
        Check.sentence("Promise 6: Returns today");
        Obligary o = Given.daily(1);
        Check.due("today()", o.today(), 0);
        Check.due("today() again", o.today(), 0);
        o.pass(30);
        Check.due("today() after a pass", o.today(), 30);
        o.finish(0);
        o.holiday(30);
        Check.due("today() after other calls", o.today(), 30);
    }
}
