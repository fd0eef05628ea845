/** Promises 1 to 6: a new object, holiday, isWorking, workingDays, pass, today. */
final class CalendarTest {
    private static final Class<IndexOutOfBoundsException> INDEX = IndexOutOfBoundsException.class;
    private static final Class<IllegalArgumentException> ARGUMENT = IllegalArgumentException.class;
    private static final Class<IllegalStateException> STATE = IllegalStateException.class;
    private static final int[] NO_DAYS = {-1, 720, Integer.MIN_VALUE, Integer.MAX_VALUE};

    public static void main(String[] args) {
        newObject();
        holiday();
        holidayOnWeekend();
        isWorking();
        workingDays();
        pass();
        passToTheEnd();
        Check.end();
    }

    private static void newObject() {
        Obligary used = new Obligary();
        used.addRule(Obligary.EVERY, 1, Obligary.SKIP, 0, 9, 0);
        used.holiday(3);
        used.pass(7);
        Obligary o = new Obligary();
        Check.due("rules() when new", o.rules(), 0);
        Check.due("today() when new", o.today(), 0);
        Check.due("workingDays(0, 719) when new", o.workingDays(0, 719), 515);
        Check.due("overdue() when new", o.overdue(), 0);
        Check.due("upcoming(0, 0) when new", o.upcoming(0, 0), Obligary.NONE);
        Check.due("order(719, 0) when new", o.order(719, 0), Obligary.NONE);
        Check.due("load(0) when new", o.load(0), 0);
        Check.due("heaviest(3, 719) when new", o.heaviest(3, 719), 3);
        Check.due("level(0, 719, 1) when new", o.level(0, 719, 1), 0);
    }

    private static void holiday() {
        Obligary o = new Obligary();
        Check.due("holiday(0)", o.holiday(0), true);
        Check.due("isWorking(0) on a holiday", o.isWorking(0), false);
        Check.due("isWorking(1) beside a holiday", o.isWorking(1), true);
        Check.due("holiday(0) again", o.holiday(0), false);
        Check.due("isWorking(0) after the holiday is taken back", o.isWorking(0), true);
        Check.due("holiday(718)", o.holiday(718), true);
        Check.due("holiday(719)", o.holiday(719), true);
        Check.due("workingDays(714, 719)", o.workingDays(714, 719), 4);
        for (int day : NO_DAYS) {
            Check.thrown(INDEX, "holiday(" + day + ")", () -> o.holiday(day));
        }
        Check.due("workingDays(0, 719) after calls that threw", o.workingDays(0, 719), 514);
    }

    private static void holidayOnWeekend() {
        Obligary o = new Obligary();
        Check.due("holiday(5), a Saturday", o.holiday(5), true);
        Check.due("isWorking(5) on a holiday", o.isWorking(5), false);
        Check.due("holiday(5) again", o.holiday(5), false);
        Check.due("isWorking(5) on a Saturday", o.isWorking(5), false);
    }

    private static void isWorking() {
        Obligary o = new Obligary();
        for (int day = 0; day < 720; day++) {
            Check.due("isWorking(" + day + ")", o.isWorking(day), day % 7 != 5 && day % 7 != 6);
        }
        for (int day : NO_DAYS) {
            Check.thrown(INDEX, "isWorking(" + day + ")", () -> o.isWorking(day));
        }
    }

    private static void workingDays() {
        Obligary o = new Obligary();
        Check.due("workingDays(0, 0)", o.workingDays(0, 0), 1);
        Check.due("workingDays(5, 6)", o.workingDays(5, 6), 0);
        Check.due("workingDays(4, 7)", o.workingDays(4, 7), 2);
        Check.due("workingDays(0, 13)", o.workingDays(0, 13), 10);
        Check.due("workingDays(719, 719)", o.workingDays(719, 719), 0);
        o.holiday(7);
        o.holiday(13);
        Check.due("workingDays(7, 7) on a holiday", o.workingDays(7, 7), 0);
        Check.due("workingDays(0, 13) with holidays", o.workingDays(0, 13), 9);
        for (int day : NO_DAYS) {
            Check.thrown(INDEX, "workingDays(" + day + ", 5)", () -> o.workingDays(day, 5));
            Check.thrown(INDEX, "workingDays(5, " + day + ")", () -> o.workingDays(5, day));
        }
        Check.thrown(ARGUMENT, "workingDays(5, 4)", () -> o.workingDays(5, 4));
        Check.thrown(ARGUMENT, "workingDays(719, 0)", () -> o.workingDays(719, 0));
    }

    private static void pass() {
        Obligary o = new Obligary();
        Check.thrown(ARGUMENT, "pass(0)", () -> o.pass(0));
        Check.thrown(ARGUMENT, "pass(-1)", () -> o.pass(-1));
        Check.thrown(ARGUMENT, "pass(101)", () -> o.pass(101));
        Check.thrown(ARGUMENT, "pass(MIN)", () -> o.pass(Integer.MIN_VALUE));
        Check.thrown(ARGUMENT, "pass(MAX)", () -> o.pass(Integer.MAX_VALUE));
        Check.due("today() after calls that threw", o.today(), 0);
        Check.due("pass(1)", o.pass(1), 1);
        Check.due("pass(100)", o.pass(100), 101);
        Check.due("today()", o.today(), 101);
    }

    private static void passToTheEnd() {
        Obligary o = new Obligary();
        for (int i = 1; i <= 7; i++) {
            Check.due("pass(100)", o.pass(100), 100 * i);
        }
        Check.thrown(STATE, "pass(20) on day 700", () -> o.pass(20));
        Check.thrown(STATE, "pass(100) on day 700", () -> o.pass(100));
        Check.thrown(ARGUMENT, "pass(101) on day 700", () -> o.pass(101));
        Check.due("today() after calls that threw", o.today(), 700);
        Check.due("pass(19) on day 700", o.pass(19), 719);
        Check.thrown(STATE, "pass(1) on day 719", () -> o.pass(1));
        Check.thrown(ARGUMENT, "pass(0) on day 719", () -> o.pass(0));
        Check.due("today() on the last day", o.today(), 719);
    }
}
