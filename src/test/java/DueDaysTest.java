/** Promises 11 to 15: dueDay, duties, nextDue, nextDueByWalking, upcoming. */
final class DueDaysTest {
    private static final Class<IndexOutOfBoundsException> INDEX = IndexOutOfBoundsException.class;
    private static final int[] NO_DAYS = {-1, 720, Integer.MIN_VALUE, Integer.MAX_VALUE};
    private static final int[] NO_RULES = {-1, 1, 8, Integer.MIN_VALUE, Integer.MAX_VALUE};

    public static void main(String[] args) {
        every();
        everyMoved();
        monthly();
        nth();
        last();
        holidaysMove();
        nothingToMoveTo();
        endsOfTheCalendar();
        rulesChange();
        wrongArguments();
        walkingAgrees();
        upcoming();
        Check.end();
    }

    private static Obligary with(int kind, int n, int shift, int first) {
        Obligary o = new Obligary();
        o.addRule(kind, n, shift, first, 1, 0);
        return o;
    }

    /** The first due days, asked for in all three ways. */
    private static void firstDueDays(String what, Obligary o, int... days) {
        int from = 0;
        for (int duty = 0; duty < days.length; duty++) {
            Check.due(what + ": dueDay(0, " + duty + ")", o.dueDay(0, duty), days[duty]);
            Check.due(what + ": nextDue(0, " + from + ")", o.nextDue(0, from), days[duty]);
            Check.due(what + ": nextDueByWalking(0, " + from + ")", o.nextDueByWalking(0, from), days[duty]);
            from = days[duty] + 1;
        }
    }

    private static void every() {
        firstDueDays("each day", with(0, 1, Obligary.SKIP, 0), 0, 1, 2, 3, 4, 7, 8);
        firstDueDays("each day, moved", with(0, 1, Obligary.FOLLOWING, 5), 7, 8, 9, 10, 11, 14);
        firstDueDays("each day from Sunday, moved back", with(0, 1, Obligary.PRECEDING, 6), 4, 7, 8);
        firstDueDays("each 60th day", with(0, 60, Obligary.SKIP, 0), 0, 60, 120, 240);
        Obligary o = with(0, 1, Obligary.FOLLOWING, 0);
        Check.due("duties(0)", o.duties(0), 515);
        Check.due("dueDay(0, 514)", o.dueDay(0, 514), 718);
        Check.due("dueDay(0, 515)", o.dueDay(0, 515), Obligary.NONE);
        Check.due("dueDay(0, MAX)", o.dueDay(0, Integer.MAX_VALUE), Obligary.NONE);
        Check.due("nextDue(0, 718)", o.nextDue(0, 718), 718);
        Check.due("nextDue(0, 719)", o.nextDue(0, 719), Obligary.NONE);
        Check.due("nextDueByWalking(0, 719)", o.nextDueByWalking(0, 719), Obligary.NONE);
    }

    private static void everyMoved() {
        Obligary o = with(0, 7, Obligary.FOLLOWING, 5);
        firstDueDays("Saturdays, following", o, 7, 14, 21);
        Check.due("Saturdays, following: duties(0)", o.duties(0), 102);
        Check.due("Saturdays, following: dueDay(0, 101)", o.dueDay(0, 101), 714);
        o = with(0, 7, Obligary.PRECEDING, 5);
        firstDueDays("Saturdays, preceding", o, 4, 11, 18);
        Check.due("Saturdays, preceding: duties(0)", o.duties(0), 103);
        Check.due("Saturdays, preceding: dueDay(0, 102)", o.dueDay(0, 102), 718);
        o = with(0, 7, Obligary.SKIP, 5);
        Check.due("Saturdays, skipped: duties(0)", o.duties(0), 0);
        Check.due("Saturdays, skipped: nextDue(0, 0)", o.nextDue(0, 0), Obligary.NONE);
        Check.due("Saturdays, skipped: nextDueByWalking(0, 0)", o.nextDueByWalking(0, 0), Obligary.NONE);
        Check.due("a Friday and no more: duties(0)", with(0, 60, 0, 718).duties(0), 1);
    }

    private static void monthly() {
        firstDueDays("day 29, following", with(1, 29, Obligary.FOLLOWING, 30), 59, 91, 119, 149);
        firstDueDays("day 29, preceding", with(1, 29, Obligary.PRECEDING, 30), 59, 88, 119, 149);
        firstDueDays("day 29, skipped", with(1, 29, Obligary.SKIP, 30), 59, 119, 149);
        firstDueDays("day 29 from day 29 on", with(1, 29, Obligary.SKIP, 29), 29, 59);
        firstDueDays("day 0 from day 1 on", with(1, 0, Obligary.SKIP, 1), 30, 60, 120);
        firstDueDays("day 0 from day 0 on", with(1, 0, Obligary.SKIP, 0), 0, 30, 60, 120);
        Check.due("day 1 of each month: duties(0)", with(1, 1, Obligary.PRECEDING, 0).duties(0), 24);
    }

    private static void nth() {
        firstDueDays("first", with(2, 1, Obligary.SKIP, 0), 0, 30, 60, 91, 120, 150, 182);
        firstDueDays("first, from day 1 on", with(2, 1, Obligary.SKIP, 1), 30, 60);
        firstDueDays("third, counted from the start of the month", with(2, 3, Obligary.SKIP, 2), 2, 32, 64);
        Check.due("22nd: dueDay(0, 0)", with(2, 22, Obligary.SKIP, 0).dueDay(0, 0), 29);
        Check.due("22nd: months without one", with(2, 22, Obligary.SKIP, 0).duties(0) < 24, true);
        Check.due("20th: each month has one", with(2, 20, Obligary.SKIP, 0).duties(0), 24);
        Obligary o = with(2, 1, Obligary.FOLLOWING, 0);
        o.holiday(0);
        firstDueDays("first, after a holiday", o, 1, 30, 60);
        Check.due("first, after a holiday: duties(0)", o.duties(0), 24);
    }

    private static void last() {
        firstDueDays("last", with(3, 1, Obligary.SKIP, 0), 29, 59, 88, 119, 149);
        firstDueDays("last but one, from day 29 on", with(3, 2, Obligary.SKIP, 29), 58, 87);
        firstDueDays("last, on its day", with(3, 1, Obligary.SKIP, 29), 29, 59);
        firstDueDays("22nd from the end", with(3, 22, Obligary.SKIP, 0), 0, 30);
        Obligary o = with(3, 1, Obligary.FOLLOWING, 0);
        o.holiday(29);
        o.holiday(28);
        firstDueDays("last, before holidays", o, 25, 59);
        o.holiday(28);
        firstDueDays("last, before one holiday", o, 28, 59);
    }

    private static void holidaysMove() {
        Obligary o = with(1, 2, Obligary.FOLLOWING, 0);
        firstDueDays("Wednesday", o, 2, 32);
        for (int day : new int[] {2, 3, 4, 7}) {
            o.holiday(day);
        }
        firstDueDays("holidays and a weekend, following", o, 8, 32);
        o.setShift(0, Obligary.PRECEDING);
        firstDueDays("holidays, preceding", o, 1, 32);
        o.setShift(0, Obligary.SKIP);
        firstDueDays("holidays, skipped", o, 32);
        o.holiday(2);
        firstDueDays("holiday taken back", o, 2, 32);
        Obligary met = with(0, 1, Obligary.FOLLOWING, 2);
        met.holiday(2);
        met.holiday(3);
        firstDueDays("several moved to one day", met, 4, 7, 8);
        Check.due("several moved to one day: duties(0)", met.duties(0), 511);
    }

    private static void nothingToMoveTo() {
        Obligary o = with(0, 60, Obligary.PRECEDING, 5);
        for (int day = 0; day < 5; day++) {
            o.holiday(day);
        }
        firstDueDays("nothing before", o, 65, 123);
        Obligary end = with(0, 60, Obligary.FOLLOWING, 717);
        Check.due("before the last days: duties(0)", end.duties(0), 1);
        end.holiday(717);
        Check.due("one day after: dueDay(0, 0)", end.dueDay(0, 0), 718);
        end.holiday(718);
        Check.due("nothing after: duties(0)", end.duties(0), 0);
        Check.due("nothing after: nextDue(0, 0)", end.nextDue(0, 0), Obligary.NONE);
        Check.due("nothing after: nextDueByWalking(0, 0)", end.nextDueByWalking(0, 0), Obligary.NONE);
        end.setShift(0, Obligary.PRECEDING);
        firstDueDays("before the first day of the rule", end, 716);
    }

    private static void endsOfTheCalendar() {
        Obligary start = with(0, 60, Obligary.FOLLOWING, 0);
        start.holiday(0);
        firstDueDays("day 0, following", start, 1, 60);
        Obligary end = with(1, 0, Obligary.PRECEDING, 0);
        Check.due("there is no month 24: nextDue(0, 691)", end.nextDue(0, 691), Obligary.NONE);
        Check.due("there is no month 24: nextDueByWalking(0, 691)", end.nextDueByWalking(0, 691), Obligary.NONE);
        end = with(1, 29, Obligary.PRECEDING, 0);
        Check.due("day 719, preceding: nextDue(0, 718)", end.nextDue(0, 718), 718);
        Check.due("day 719, preceding: nextDueByWalking(0, 718)", end.nextDueByWalking(0, 718), 718);
    }

    private static void rulesChange() {
        Obligary o = with(0, 7, Obligary.SKIP, 4);
        o.holiday(4);
        o.addRule(0, 7, Obligary.PRECEDING, 4, 1, 0);
        Check.due("a rule made after a holiday: dueDay(1, 0)", o.dueDay(1, 0), 3);
        Check.due("a rule made before a holiday: dueDay(0, 0)", o.dueDay(0, 0), 11);
    }

    private static void wrongArguments() {
        Obligary o = with(0, 1, 0, 0);
        for (int bad : NO_RULES) {
            Check.thrown(INDEX, "dueDay(" + bad + ", 0)", () -> o.dueDay(bad, 0));
            Check.thrown(INDEX, "duties(" + bad + ")", () -> o.duties(bad));
            Check.thrown(INDEX, "nextDue(" + bad + ", 0)", () -> o.nextDue(bad, 0));
            Check.thrown(INDEX, "nextDueByWalking(" + bad + ", 0)", () -> o.nextDueByWalking(bad, 0));
        }
        for (int bad : NO_DAYS) {
            Check.thrown(INDEX, "nextDue(0, " + bad + ")", () -> o.nextDue(0, bad));
            Check.thrown(INDEX, "nextDueByWalking(0, " + bad + ")", () -> o.nextDueByWalking(0, bad));
            Check.thrown(INDEX, "upcoming(" + bad + ", 0)", () -> o.upcoming(bad, 0));
        }
        for (int bad : new int[] {-1, Integer.MIN_VALUE}) {
            Check.thrown(INDEX, "dueDay(0, " + bad + ")", () -> o.dueDay(0, bad));
            Check.thrown(INDEX, "upcoming(0, " + bad + ")", () -> o.upcoming(0, bad));
        }
    }

    private static void walkingAgrees() {
        for (int kind = Obligary.EVERY; kind <= Obligary.LAST; kind++) {
            for (int shift = Obligary.FOLLOWING; shift <= Obligary.SKIP; shift++) {
                for (int n : new int[] {1, 6, 13, 22}) {
                    Obligary o = with(kind, n, shift, 40);
                    for (int day = 30; day < 60; day += 3) {
                        o.holiday(day);
                    }
                    for (int from = 0; from < 720; from++) {
                        String what = "rule " + kind + " " + n + " " + shift + ", nextDueByWalking(0, " + from + ")";
                        Check.due(what, o.nextDueByWalking(0, from), o.nextDue(0, from));
                    }
                }
            }
        }
    }

    private static void upcoming() {
        Obligary o = with(1, 5, Obligary.FOLLOWING, 0);
        o.addRule(1, 7, Obligary.SKIP, 0, 1, 0);
        o.addRule(1, 6, Obligary.PRECEDING, 0, 1, 0);
        int[] want = {42, 70, 71, 350, 362, 371};
        for (int place = 0; place < want.length; place++) {
            Check.due("upcoming(0, " + place + ")", o.upcoming(0, place), want[place]);
        }
        Check.due("upcoming(4, 0)", o.upcoming(4, 0), 42);
        Check.due("upcoming(5, 0)", o.upcoming(5, 0), 70);
        Check.due("upcoming(8, 0)", o.upcoming(8, 0), 350);
        o.pass(10);
        o.finish(0);
        Check.due("upcoming(0, 1), finished and overdue", o.upcoming(0, 1), 70);
        int all = o.duties(0) + o.duties(1) + o.duties(2);
        Check.due("upcoming(0, all - 1)", o.upcoming(0, all - 1) > 6900, true);
        Check.due("upcoming(0, all)", o.upcoming(0, all), Obligary.NONE);
        Check.due("upcoming(0, MAX)", o.upcoming(0, Integer.MAX_VALUE), Obligary.NONE);
        Check.due("upcoming(719, 0)", o.upcoming(719, 0), Obligary.NONE);
    }
}
