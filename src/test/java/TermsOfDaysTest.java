/** The document's head and what its section "Terms" says of days, rules and due days, sentence by sentence. */
final class TermsOfDaysTest {
    private static final Class<IndexOutOfBoundsException> INDEX = IndexOutOfBoundsException.class;
    private static final int EVERY = Given.EVERY, MONTHLY = Given.MONTHLY, NTH = Given.NTH, LAST = Given.LAST;
    private static final int FOLLOWING = Given.FOLLOWING, PRECEDING = Given.PRECEDING, SKIP = Given.SKIP;
    private static final int NONE = Obligary.NONE;
    private static final int[] SHIFTS = {FOLLOWING, PRECEDING, SKIP};

    private interface DayCall {
        void ask(Obligary o, int day);
    }

    private interface RuleCall {
        void ask(Obligary o, int rule);
    }

    public static void main(String[] args) {
        lastCalls();
        daysAreNumbered();
        weekends();
        months();
        daysOff();
        todayIsAtFirstDay0();
        rulesAreNumbered();
        everyNthDay();
        dayOfEachMonth();
        nthWorkingDay();
        monthsWithoutAnNthWorkingDay();
        lastWorkingDay();
        monthsWithoutALastWorkingDay();
        nominalDaysFromTheFirstDayOn();
        nominalDaysUpToTheLastDay();
        nominalWorkingDays();
        following();
        preceding();
        precedingBeforeTheFirstDay();
        skip();
        noWorkingDayAfter();
        noWorkingDayBefore();
        ascendingEachOnce();
        numberedFrom0();
        asTheyAreWhenAsked();
        daysBeforeTodayToo();
        Check.end();
    }

    private static void lastCalls() {
        Check.sentence("An object is used for at most 512 calls: the 512th is still answered");
        Obligary finishing = Given.daily(1);
        Given.finish(finishing, 0, 510);
        Check.due("finished(0) as the 512th call", finishing.finished(0), 510);
        Obligary passing = Given.daily(8);
        for (int i = 0; i < 503; i++) {
            passing.pass(1);
        }
        Check.due("overdue() as the 512th call", passing.overdue(), 8 * 360);
        Obligary changing = new Obligary();
        for (int i = 0; i < 511; i++) {
            changing.holiday(719 - i);
        }
        Check.due("workingDays(0, 719) as the 512th call", changing.workingDays(0, 719), 150);
    }

    private static void daysAreNumbered() {
        Check.sentence("Days are numbered 0 to 719");
        takesADay("holiday(d)", (o, day) -> o.holiday(day));
        takesADay("isWorking(d)", (o, day) -> o.isWorking(day));
        takesADay("workingDays(0, d)", (o, day) -> o.workingDays(0, day));
        takesADay("workingDays(d, 719)", (o, day) -> o.workingDays(day, 719));
        takesADay("addRule(0, 1, 0, d, 1, 0)", (o, day) -> o.addRule(EVERY, 1, FOLLOWING, day, 1, 0));
        takesADay("nextDue(0, d)", (o, day) -> o.nextDue(0, day));
        takesADay("nextDueByWalking(0, d)", (o, day) -> o.nextDueByWalking(0, day));
        takesADay("upcoming(d, 0)", (o, day) -> o.upcoming(day, 0));
        takesADay("order(d, 0)", (o, day) -> o.order(day, 0));
        takesADay("isCovered(0, d)", (o, day) -> o.isCovered(0, day));
        takesADay("load(d)", (o, day) -> o.load(day));
        takesADay("heaviest(0, d)", (o, day) -> o.heaviest(0, day));
        takesADay("heaviest(d, 719)", (o, day) -> o.heaviest(day, 719));
        takesADay("level(0, d, 1)", (o, day) -> o.level(0, day, 1));
        takesADay("level(d, 719, 1)", (o, day) -> o.level(day, 719, 1));
        takesADay("levelled(0, d, 1, 0)", (o, day) -> o.levelled(0, day, 1, 0));
        takesADay("levelled(d, 719, 1, 0)", (o, day) -> o.levelled(day, 719, 1, 0));
        takesADay("levelled(0, 719, 1, d)", (o, day) -> o.levelled(0, 719, 1, day));
    }

    private static void takesADay(String call, DayCall asking) {
        Obligary o = Given.daily(1);
        for (int day : new int[] {0, 1, 718, 719}) {
            Check.thrown(null, call + " of day " + day, () -> asking.ask(o, day));
        }
        for (int day : new int[] {-1, 720, -719, 1439, Integer.MIN_VALUE, Integer.MAX_VALUE}) {
            Check.thrown(INDEX, call + " of day " + day, () -> asking.ask(o, day));
        }
    }

    private static void weekends() {
        Check.sentence("day 0 is a Monday, so the days with d % 7 of 5 and 6 are Saturdays and Sundays");
        for (int start : new int[] {0, 360}) {
            Obligary o = new Obligary();
            for (int day = start; day < start + 360; day++) {
                Check.due("isWorking(" + day + ")", o.isWorking(day), day % 7 != 5 && day % 7 != 6);
            }
        }
    }

    private static void months() {
        Check.sentence("The month m, 0 to 23, has the days 30 * m to 30 * m + 29");
        Check.dueDays("first working days", Given.rule(NTH, 1, SKIP, 0), 0, 0, 30, 60, 91, 120, 150, 182, 210, 240,
                270, 301, 330, 360, 392, 420, 450, 480, 511, 540, 570, 602, 630, 660, 690);
        Check.dueDays("last working days", Given.rule(LAST, 1, SKIP, 0), 0, 29, 59, 88, 119, 149, 179, 207, 239, 269,
                298, 329, 359, 389, 417, 449, 479, 508, 539, 569, 599, 627, 659, 689, 718);
    }

    private static void daysOff() {
        Check.sentence("Saturdays, Sundays and holidays are days off; all others are working days");
        Obligary o = new Obligary();
        Given.holidays(o, 0, 4, 5, 6, 7, 718, 719);
        boolean[] working = {false, true, true, true, false, false, false, false, true};
        for (int day = 0; day < working.length; day++) {
            Check.due("isWorking(" + day + ")", o.isWorking(day), working[day]);
        }
        Check.due("isWorking(717)", o.isWorking(717), true);
        Check.due("isWorking(718)", o.isWorking(718), false);
        Check.due("isWorking(719)", o.isWorking(719), false);
        Given.holidays(o, 5, 6, 719);
        Check.due("isWorking(5), a Saturday that is no holiday any more", o.isWorking(5), false);
        Check.due("isWorking(6), a Sunday that is no holiday any more", o.isWorking(6), false);
        Check.due("isWorking(719), a Saturday that is no holiday any more", o.isWorking(719), false);
    }

    private static void todayIsAtFirstDay0() {
        Check.sentence("There is a present day, today, at first 0");
        Obligary o = Given.daily(1);
        Check.due("today()", o.today(), 0);
        Check.due("overdue()", o.overdue(), 0);
        Check.due("finish(0)", o.finish(0), 0);
        Check.due("isCovered(0, 0)", o.isCovered(0, 0), true);
    }

    private static void rulesAreNumbered() {
        Check.sentence("There are at most 8, numbered from 0");
        takesARule("setShift(r, 0)", (o, rule) -> o.setShift(rule, 0));
        takesARule("dueDay(r, 0)", (o, rule) -> o.dueDay(rule, 0));
        takesARule("duties(r)", (o, rule) -> o.duties(rule));
        takesARule("nextDue(r, 0)", (o, rule) -> o.nextDue(rule, 0));
        takesARule("nextDueByWalking(r, 0)", (o, rule) -> o.nextDueByWalking(rule, 0));
        takesARule("finish(r)", (o, rule) -> o.finish(rule));
        takesARule("open(r)", (o, rule) -> o.open(rule));
        takesARule("finished(r)", (o, rule) -> o.finished(rule));
        takesARule("blockedBy(r)", (o, rule) -> o.blockedBy(rule));
        takesARule("isCovered(r, 0)", (o, rule) -> o.isCovered(rule, 0));
        takesARule("finish(r), lasts(r)", (o, rule) -> {
            if (rule >= 0 && rule < o.rules()) {
                o.finish(rule);
            }
            o.lasts(rule);
        });
        for (int count : new int[] {1, 2, 7, 8}) {
            for (int bad : new int[] {-1, count, 8, 9, 32, Integer.MIN_VALUE, Integer.MAX_VALUE}) {
                Obligary o = Given.daily(count);
                Check.thrown(INDEX, "require(" + bad + ", 0) of " + count, () -> o.require(bad, 0));
                Check.thrown(INDEX, "require(0, " + bad + ") of " + count, () -> o.require(0, bad));
                Check.thrown(INDEX, "require(" + bad + ", " + bad + ") of " + count, () -> o.require(bad, bad));
            }
        }
        Obligary full = Given.daily(8);
        Check.due("require(0, 7)", full.require(0, 7), true);
        Check.due("blockedBy(0)", full.blockedBy(0), 7);
        Check.due("require(7, 1)", full.require(7, 1), true);
        Check.due("blockedBy(7)", full.blockedBy(7), 1);
        Check.thrown(INDEX, "require(0, 0) without rules", () -> new Obligary().require(0, 0));
    }

    private static void takesARule(String call, RuleCall asking) {
        for (int count : new int[] {0, 1, 2, 8}) {
            Obligary o = Given.daily(count);
            for (int rule = 0; rule < count; rule++) {
                int there = rule;
                Check.thrown(null, call + " of rule " + rule + " of " + count, () -> asking.ask(o, there));
            }
            for (int bad : new int[] {-1, count, count + 1, 8, 32, Integer.MIN_VALUE, Integer.MAX_VALUE}) {
                Check.thrown(INDEX, call + " of rule " + bad + " of " + count, () -> asking.ask(o, bad));
            }
        }
    }

    private static void everyNthDay() {
        Check.sentence("for EVERY the first day and then each n-th day after it");
        Check.dueDays("each day from 708 on", Given.rule(EVERY, 1, SKIP, 708), 0, 708, 709, 710, 711, 714, 715, 716,
                717, 718);
        Check.dueDays("each 2nd day from 707 on", Given.rule(EVERY, 2, SKIP, 707), 0, 707, 709, 711, 715, 717);
        Check.dueDays("each 60th day from 0 on", Given.rule(EVERY, 60, SKIP, 0), 0, 0, 60, 120, 240, 360, 420, 480,
                540, 660);
        Check.dueDays("each 60th day from 59 on", Given.rule(EVERY, 60, SKIP, 59), 0, 59, 119, 179, 239, 359, 479,
                539, 599, 659);
        Check.dueDays("each 59th day from 1 on", Given.rule(EVERY, 59, SKIP, 1), 0, 1, 60, 119, 178, 296, 414, 473,
                532, 591, 709);
    }

    private static void dayOfEachMonth() {
        Check.sentence("for MONTHLY the day 30 * m + n of each month");
        Check.dueDays("day 0", Given.rule(MONTHLY, 0, SKIP, 0), 0, 0, 30, 60, 120, 150, 210, 240, 270, 330, 360, 420,
                450, 480, 540, 570, 630, 660, 690);
        Check.dueDays("day 29", Given.rule(MONTHLY, 29, SKIP, 0), 0, 29, 59, 119, 149, 179, 239, 269, 329, 359, 389,
                449, 479, 539, 569, 599, 659, 689);
        Check.dueDays("day 14 from 500 on", Given.rule(MONTHLY, 14, SKIP, 500), 0, 554, 584, 644, 674, 704);
    }

    private static void nthWorkingDay() {
        Check.sentence("for NTH the n-th working day of each month, the first one being number 1");
        for (int shift : SHIFTS) {
            Check.dueDays("1st from 600 on", Given.rule(NTH, 1, shift, 600), 0, 602, 630, 660, 690);
            Check.dueDays("2nd from 600 on", Given.rule(NTH, 2, shift, 600), 0, 603, 631, 661, 693);
            Check.dueDays("20th from 600 on", Given.rule(NTH, 20, shift, 600), 0, 627, 655, 687, 717);
        }
        Obligary o = Given.rule(NTH, 2, SKIP, 600);
        Given.holidays(o, 630, 662, 693);
        Check.dueDays("2nd, holidays being no working days", o, 0, 603, 632, 661, 694);
    }

    private static void monthsWithoutAnNthWorkingDay() {
        Check.sentence("months without such a day have none: NTH");
        Check.dueDays("22nd", Given.rule(NTH, 22, FOLLOWING, 0), 0, 29, 59, 149, 179, 239, 269, 359, 389, 449, 479,
                569, 599, 659, 689);
        Check.dueDays("21st", Given.rule(NTH, 21, PRECEDING, 0), 0, 28, 58, 88, 119, 148, 178, 238, 268, 298, 329, 358,
                388, 448, 478, 508, 539, 568, 598, 658, 688, 718);
        Obligary o = Given.rule(NTH, 22, FOLLOWING, 600);
        o.holiday(640);
        Check.dueDays("22nd of a month with a holiday", o, 0, 689);
        o.holiday(640);
        Check.dueDays("22nd of a month without that holiday", o, 0, 659, 689);
        Obligary off = Given.rule(NTH, 1, FOLLOWING, 660);
        off.addRule(NTH, 2, PRECEDING, 660, 1, 0);
        Given.allOff(off, 690, 719);
        Check.dueDays("1st of a month without working days", off, 0, 660);
        off.holiday(700);
        Check.dueDays("1st of a month with one working day", off, 0, 660, 700);
        Check.dueDays("2nd of a month with one working day", off, 1, 661);
    }

    private static void lastWorkingDay() {
        Check.sentence("for LAST the n-th working day counted from its end, the last one being number 1");
        for (int shift : SHIFTS) {
            Check.dueDays("last from 600 on", Given.rule(LAST, 1, shift, 600), 0, 627, 659, 689, 718);
            Check.dueDays("last but one from 600 on", Given.rule(LAST, 2, shift, 600), 0, 626, 658, 688, 717);
            Check.dueDays("20th from 600 on", Given.rule(LAST, 20, shift, 600), 0, 602, 632, 662, 693);
        }
        Obligary o = Given.rule(LAST, 2, SKIP, 600);
        Given.holidays(o, 659, 687, 717);
        Check.dueDays("last but one, holidays being no working days", o, 0, 626, 655, 688, 716);
    }

    private static void monthsWithoutALastWorkingDay() {
        Check.sentence("months without such a day have none: LAST");
        Check.dueDays("22nd", Given.rule(LAST, 22, PRECEDING, 0), 0, 0, 30, 120, 150, 210, 240, 330, 360, 420, 450,
                540, 570, 630, 660);
        Check.dueDays("21st from 600 on", Given.rule(LAST, 21, FOLLOWING, 600), 0, 631, 661, 690);
        Obligary o = Given.rule(LAST, 22, FOLLOWING, 600);
        o.holiday(640);
        Check.dueDays("22nd of a month with a holiday", o, 0, 660);
        o.holiday(640);
        Check.dueDays("22nd of a month without that holiday", o, 0, 630, 660);
        Obligary off = Given.rule(LAST, 1, PRECEDING, 660);
        off.addRule(LAST, 2, FOLLOWING, 660, 1, 0);
        Given.allOff(off, 690, 719);
        Check.dueDays("last of a month without working days", off, 0, 689);
        off.holiday(700);
        Check.dueDays("last of a month with one working day", off, 0, 689, 700);
        Check.dueDays("last but one of a month with one working day", off, 1, 688);
    }

    private static void nominalDaysFromTheFirstDayOn() {
        Check.sentence("Only nominal days from the first day of the rule on count");
        Check.due("MONTHLY, day 2 from 2 on", Given.rule(MONTHLY, 2, SKIP, 2).dueDay(0, 0), 2);
        Check.due("MONTHLY, day 2 from 3 on", Given.rule(MONTHLY, 2, SKIP, 3).dueDay(0, 0), 32);
        Check.due("NTH, 3rd from 2 on", Given.rule(NTH, 3, SKIP, 2).dueDay(0, 0), 2);
        Check.due("NTH, 3rd from 3 on", Given.rule(NTH, 3, SKIP, 3).dueDay(0, 0), 32);
        Check.due("NTH, 1st from 1 on: months are counted from their start",
                Given.rule(NTH, 1, SKIP, 1).dueDay(0, 0), 30);
        Check.due("LAST, last from 29 on", Given.rule(LAST, 1, SKIP, 29).dueDay(0, 0), 29);
        Check.due("LAST, last from 30 on", Given.rule(LAST, 1, SKIP, 30).dueDay(0, 0), 59);
        Check.dueDays("712 is before 713, though it would be moved to 714", Given.rule(MONTHLY, 22, FOLLOWING, 713), 0);
        Check.due("a Saturday from that day on, moved", Given.rule(MONTHLY, 5, FOLLOWING, 5).dueDay(0, 0), 7);
        Check.due("a Saturday before, though it would be moved", Given.rule(MONTHLY, 5, FOLLOWING, 6).dueDay(0, 0), 35);
        Check.due("a Sunday before, though it would be moved", Given.rule(MONTHLY, 6, FOLLOWING, 7).dueDay(0, 0), 36);
        Check.due("each day from Monday on: no day is before it", Given.rule(EVERY, 1, PRECEDING, 7).dueDay(0, 0), 7);
        Check.due("by walking, a Saturday before", Given.rule(MONTHLY, 5, FOLLOWING, 6).nextDueByWalking(0, 0), 35);
        Check.due("by walking, no day before", Given.rule(EVERY, 1, PRECEDING, 7).nextDueByWalking(0, 0), 7);
        Check.dueDays("from 719 on", Given.rule(NTH, 20, PRECEDING, 719), 0);
        Check.dueDays("from 718 on", Given.rule(LAST, 1, PRECEDING, 718), 0, 718);
    }

    private static void nominalDaysUpToTheLastDay() {
        Check.sentence("and only days up to 719");
        // 720 would be a Sunday: counted, it would be moved to 718.
        Check.dueDays("each 60th day from 600 on", Given.rule(EVERY, 60, PRECEDING, 600), 0, 599, 660);
        Check.dueDays("each day 0 from 660 on", Given.rule(MONTHLY, 0, PRECEDING, 660), 0, 660, 690);
        Check.dueDays("each 2nd day from 716 on", Given.rule(EVERY, 2, PRECEDING, 716), 0, 716, 718);
        Check.dueDays("each 3rd day from 717 on", Given.rule(EVERY, 3, PRECEDING, 717), 0, 717);
        Check.dueDays("719 itself", Given.rule(EVERY, 1, PRECEDING, 719), 0, 718);
        Check.dueDays("719 itself, MONTHLY", Given.rule(MONTHLY, 29, PRECEDING, 700), 0, 718);
    }

    private static void nominalWorkingDays() {
        Check.sentence("A nominal day that is a working day is a due day of the rule");
        for (int shift : SHIFTS) {
            for (int day : new int[] {0, 4, 7, 714, 718}) {
                Obligary o = Given.rule(EVERY, 60, shift, day);
                Check.due("shift " + shift + ": nextDue(0, " + day + ")", o.nextDue(0, day), day);
                Check.due("shift " + shift + ": dueDay(0, 0)", o.dueDay(0, 0), day);
            }
            Obligary between = Given.rule(EVERY, 60, shift, 716);
            Given.holidays(between, 715, 717);
            Check.dueDays("shift " + shift + ", between holidays", between, 0, 716);
        }
    }

    private static void following() {
        Check.sentence("moved by the shift: with FOLLOWING to the next working day");
        Check.dueDays("Saturdays from 691 on", Given.rule(EVERY, 7, FOLLOWING, 691), 0, 693, 700, 707, 714);
        Check.dueDays("Sundays from 692 on", Given.rule(EVERY, 7, FOLLOWING, 692), 0, 693, 700, 707, 714);
        Obligary o = Given.rule(EVERY, 60, FOLLOWING, 709);
        int[] holidays = {709, 710, 711, 714, 715, 716, 717};
        int[] moved = {710, 711, 714, 715, 716, 717, 718};
        for (int i = 0; i < holidays.length; i++) {
            o.holiday(holidays[i]);
            Check.dueDays("holidays up to " + holidays[i], o, 0, moved[i]);
        }
        Obligary month = Given.rule(MONTHLY, 29, FOLLOWING, 670);
        Given.holidays(month, 689);
        Check.dueDays("into the next month", month, 0, 690);
        month.holiday(690);
        Check.dueDays("over a holiday of the next month", month, 0, 693);
        Check.due("from Saturday 5", Given.rule(EVERY, 60, FOLLOWING, 5).dueDay(0, 0), 7);
    }

    private static void preceding() {
        Check.sentence("with PRECEDING to the working day before it");
        Check.dueDays("Saturdays from 691 on", Given.rule(EVERY, 7, PRECEDING, 691), 0, 690, 697, 704, 711, 718);
        Check.dueDays("Sundays from 692 on", Given.rule(EVERY, 7, PRECEDING, 692), 0, 690, 697, 704, 711);
        Obligary o = Given.rule(MONTHLY, 10, PRECEDING, 0);
        int[] holidays = {10, 9, 8, 7, 4, 3, 2, 1};
        int[] moved = {9, 8, 7, 4, 3, 2, 1, 0};
        for (int i = 0; i < holidays.length; i++) {
            o.holiday(holidays[i]);
            Check.due("holidays down to " + holidays[i] + ": dueDay(0, 0)", o.dueDay(0, 0), moved[i]);
            Check.due("by walking", o.nextDueByWalking(0, 0), moved[i]);
        }
        Obligary month = Given.rule(MONTHLY, 0, PRECEDING, 690);
        month.holiday(690);
        Check.dueDays("into the month before", month, 0, 689);
        month.holiday(689);
        Check.dueDays("over a holiday of the month before", month, 0, 688);
    }

    private static void precedingBeforeTheFirstDay() {
        Check.sentence("which may be before the first day of the rule");
        Check.dueDays("from a Saturday on", Given.rule(EVERY, 60, PRECEDING, 705), 0, 704);
        Check.dueDays("from a Sunday on", Given.rule(EVERY, 60, PRECEDING, 706), 0, 704);
        Obligary o = Given.rule(EVERY, 60, PRECEDING, 700);
        o.holiday(700);
        Check.dueDays("from a holiday on", o, 0, 697);
        o.holiday(697);
        Check.dueDays("from a holiday on, over another one", o, 0, 696);
        Check.dueDays("MONTHLY", Given.rule(MONTHLY, 15, PRECEDING, 705), 0, 704);
    }

    private static void skip() {
        Check.sentence("with SKIP .. it falls away");
        Check.dueDays("Saturdays", Given.rule(EVERY, 7, SKIP, 5), 0);
        Check.dueDays("Sundays", Given.rule(EVERY, 7, SKIP, 6), 0);
        Obligary o = Given.rule(EVERY, 7, SKIP, 690);
        o.holiday(704);
        Check.dueDays("Fridays, one of them a holiday", o, 0, 690, 697, 711, 718);
        Check.dueDays("days off between are skipped", Given.rule(EVERY, 1, SKIP, 710), 0, 710, 711, 714, 715, 716, 717,
                718);
    }

    private static void noWorkingDayAfter() {
        Check.sentence("if there is no such day from 0 to 719, it falls away: FOLLOWING");
        Check.dueDays("719 is a Saturday", Given.rule(EVERY, 1, FOLLOWING, 719), 0);
        Check.dueDays("719 is a Saturday, MONTHLY", Given.rule(MONTHLY, 29, FOLLOWING, 700), 0);
        Obligary o = Given.rule(EVERY, 60, FOLLOWING, 716);
        Given.holidays(o, 716, 717);
        Check.dueDays("the last working day", o, 0, 718);
        o.holiday(718);
        Check.dueDays("no working day left", o, 0);
        o.holiday(717);
        Check.dueDays("a working day again", o, 0, 717);
    }

    private static void noWorkingDayBefore() {
        Check.sentence("if there is no such day from 0 to 719, it falls away: PRECEDING");
        Obligary o = Given.rule(EVERY, 60, PRECEDING, 0);
        o.holiday(0);
        Check.due("day 0 is a holiday: dueDay(0, 0)", o.dueDay(0, 0), 60);
        Check.due("day 0 is a holiday: duties(0)", o.duties(0), 11);
        Check.due("day 0 is a holiday, by walking", o.nextDueByWalking(0, 0), 60);
        Obligary week = Given.rule(MONTHLY, 6, PRECEDING, 0);
        Given.allOff(week, 1, 6);
        Check.due("the first working day: dueDay(0, 0)", week.dueDay(0, 0), 0);
        week.holiday(0);
        Check.due("no working day left: dueDay(0, 0)", week.dueDay(0, 0), 36);
        Check.due("no working day left, by walking", week.nextDueByWalking(0, 0), 36);
        week.holiday(1);
        Check.due("a working day again: dueDay(0, 0)", week.dueDay(0, 0), 1);
    }

    private static void ascendingEachOnce() {
        Check.sentence("a rule has due days in ascending order, each once");
        Check.dueDays("moved on to a nominal day", Given.rule(EVERY, 1, FOLLOWING, 711), 0, 711, 714, 715, 716, 717,
                718);
        Check.dueDays("moved back to a nominal day", Given.rule(EVERY, 1, PRECEDING, 711), 0, 711, 714, 715, 716, 717,
                718);
        Check.dueDays("moved back together", Given.rule(EVERY, 1, PRECEDING, 712), 0, 711, 714, 715, 716, 717, 718);
        Check.dueDays("moved on together", Given.rule(EVERY, 1, FOLLOWING, 712), 0, 714, 715, 716, 717, 718);
        Obligary o = Given.rule(EVERY, 2, FOLLOWING, 708);
        Given.holidays(o, 708, 710, 714, 715, 716);
        Check.dueDays("several moved on", o, 0, 709, 711, 717, 718);
        o.setShift(0, PRECEDING);
        Check.dueDays("several moved back", o, 0, 707, 709, 711, 718);
    }

    private static void numberedFrom0() {
        Check.sentence("numbered from 0");
        Obligary o = Given.rule(EVERY, 1, SKIP, 714);
        for (int duty = 0; duty < 5; duty++) {
            Check.due("dueDay(0, " + duty + ")", o.dueDay(0, duty), 714 + duty);
        }
        Check.due("dueDay(0, 5)", o.dueDay(0, 5), NONE);
    }

    private static void asTheyAreWhenAsked() {
        Check.sentence("They follow from the rules and holidays as they are when they are asked for");
        Obligary o = Given.rule(NTH, 3, SKIP, 690);
        o.addRule(LAST, 3, SKIP, 690, 1, 0);
        o.addRule(EVERY, 60, FOLLOWING, 716, 1, 0);
        holidayThenDueDays(o, 691, 694, 716, 716);
        holidayThenDueDays(o, 690, 695, 716, 716);
        holidayThenDueDays(o, 695, 696, 716, 716);
        holidayThenDueDays(o, 710, 696, 716, 716);
        holidayThenDueDays(o, 718, 696, 715, 716);
        holidayThenDueDays(o, 716, 696, 714, 717);
        o.setShift(2, PRECEDING);
        holidayThenDueDays(o, 700, 696, 714, 715);
        holidayThenDueDays(o, 716, 696, 715, 716);
        holidayThenDueDays(o, 718, 696, 716, 716);
        holidayThenDueDays(o, 690, 694, 716, 716);
        o.holiday(716);
        o.addRule(EVERY, 60, FOLLOWING, 716, 1, 0);
        Check.dueDays("a rule added after the holidays", o, 3, 717);
    }

    private static void holidayThenDueDays(Obligary o, int holiday, int third, int thirdFromEnd, int moved) {
        o.holiday(holiday);
        String when = "after holiday(" + holiday + ")";
        Check.dueDays(when, o, 0, third);
        Check.dueDays(when, o, 1, thirdFromEnd);
        Check.dueDays(when, o, 2, moved);
    }

    private static void daysBeforeTodayToo() {
        Check.sentence("They follow from the rules and holidays: before today as after it");
        Obligary o = Given.rule(EVERY, 60, FOLLOWING, 690);
        Given.passTo(o, 719);
        Check.dueDays("on the last day", o, 0, 690);
        o.holiday(690);
        Check.dueDays("a holiday before today", o, 0, 693);
        o.setShift(0, PRECEDING);
        Check.dueDays("a shift changed after it", o, 0, 689);
        Check.due("a rule added after its days", o.addRule(EVERY, 60, SKIP, 700, 1, 0), 1);
        Check.dueDays("a rule added after its days", o, 1, 700);
        Check.due("overdue()", o.overdue(), 2);
    }
}
