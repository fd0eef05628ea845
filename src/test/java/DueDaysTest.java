/** Promises 11 to 15: dueDay, duties, nextDue, nextDueByWalking, upcoming. */
final class DueDaysTest {
    private static final Class<IndexOutOfBoundsException> INDEX = IndexOutOfBoundsException.class;
    private static final int EVERY = Given.EVERY, MONTHLY = Given.MONTHLY;
    private static final int FOLLOWING = Given.FOLLOWING, PRECEDING = Given.PRECEDING, SKIP = Given.SKIP;
    private static final int NONE = Obligary.NONE;
    private static final int LOWEST = Integer.MIN_VALUE, HIGHEST = Integer.MAX_VALUE;
    private static final int[] NO_DAYS = {-1, 720, LOWEST, HIGHEST};

    public static void main(String[] args) {
        dueDay();
        dueDayOfNone();
        dueDayFinishedOrNot();
        noRuleForDueDay();
        noDutyBelow0();
        duties();
        dutiesOfNone();
        dutiesOfAll();
        noRuleForDuties();
        nextDueFromADayOn();
        nextDueOfNone();
        nextDueFinishedOrNot();
        noRuleForNextDue();
        noDayForNextDue();
        walkingAnswersTheSame();
        walkingOverManyDaysOff();
        walkingMeetsTheEnds();
        noRuleForWalking();
        noDayForWalking();
        upcomingFromADayOn();
        upcomingInTheOrderOfDueDays();
        upcomingInTheOrderOfRules();
        upcomingFinishedOrNot();
        upcomingTenTimesTheDay();
        upcomingOfNone();
        upcomingOfAll();
        noDayForUpcoming();
        noPlaceBelow0();
        Check.end();
    }

    private static void dueDay() {
        Check.sentence("Promise 11: Returns a due day of a rule. duty: from 0");
        Obligary o = Given.rule(MONTHLY, 0, SKIP, 0);
        o.addRule(EVERY, 1, SKIP, 0, 1, 0);
        Check.due("dueDay(0, 0)", o.dueDay(0, 0), 0);
        Check.due("dueDay(0, 1)", o.dueDay(0, 1), 30);
        Check.due("dueDay(0, 17)", o.dueDay(0, 17), 690);
        Check.due("dueDay(1, 0)", o.dueDay(1, 0), 0);
        Check.due("dueDay(1, 5)", o.dueDay(1, 5), 7);
        Check.due("dueDay(1, 514)", o.dueDay(1, 514), 718);
    }

    private static void dueDayOfNone() {
        Check.sentence("Promise 11: NONE if there are not so many");
        Obligary o = Given.rule(MONTHLY, 0, SKIP, 0);
        o.addRule(EVERY, 1, SKIP, 0, 1, 0);
        o.addRule(EVERY, 7, SKIP, 5, 1, 0);
        for (int duty : new int[] {18, 19, 719, 720, 721, HIGHEST - 1, HIGHEST}) {
            Check.due("dueDay(0, " + duty + ")", o.dueDay(0, duty), NONE);
        }
        for (int duty : new int[] {515, 516, 719, 720, HIGHEST}) {
            Check.due("dueDay(1, " + duty + ")", o.dueDay(1, duty), NONE);
        }
        for (int duty : new int[] {0, 1, HIGHEST}) {
            Check.due("dueDay(2, " + duty + ") without any", o.dueDay(2, duty), NONE);
        }
        o.holiday(690);
        Check.due("dueDay(0, 17), one less", o.dueDay(0, 17), NONE);
        Check.due("dueDay(0, 16), one less", o.dueDay(0, 16), 660);
    }

    private static void dueDayFinishedOrNot() {
        Check.sentence("Promise 11: Returns a due day of a rule: it is counted from the first, finished or not");
        Obligary o = Given.daily(1);
        Given.finish(o, 0, 3);
        Check.due("dueDay(0, 0)", o.dueDay(0, 0), 0);
        Check.due("dueDay(0, 3)", o.dueDay(0, 3), 3);
        Check.due("duties(0)", o.duties(0), 515);
    }

    private static void noRuleForDueDay() {
        Check.sentence("Promise 11: Throws IndexOutOfBoundsException if there is no such rule");
        for (int count : new int[] {0, 1, 8}) {
            Obligary o = Given.daily(count);
            for (int bad : new int[] {-1, count, 8, LOWEST, HIGHEST}) {
                for (int duty : new int[] {0, -1, 515, HIGHEST}) {
                    Check.thrown(INDEX, "dueDay(" + bad + ", " + duty + ")", () -> o.dueDay(bad, duty));
                }
            }
        }
    }

    private static void noDutyBelow0() {
        Check.sentence("Promise 11: Throws IndexOutOfBoundsException if duty is below 0");
        Obligary o = Given.daily(1);
        o.addRule(EVERY, 7, SKIP, 5, 1, 0);
        for (int bad : new int[] {-1, -2, LOWEST}) {
            Check.thrown(INDEX, "dueDay(0, " + bad + ")", () -> o.dueDay(0, bad));
            Check.thrown(INDEX, "dueDay(1, " + bad + ") without duties", () -> o.dueDay(1, bad));
        }
    }

    private static void duties() {
        Check.sentence("Promise 12: Returns how many due days a rule has");
        Check.due("duties(0), each 60th day", Given.rule(EVERY, 60, FOLLOWING, 0).duties(0), 12);
        Check.due("duties(0), each 60th day skipped", Given.rule(EVERY, 60, SKIP, 0).duties(0), 9);
        Check.due("duties(0), MONTHLY moved back", Given.rule(MONTHLY, 29, PRECEDING, 0).duties(0), 24);
        Check.due("duties(0), MONTHLY moved on", Given.rule(MONTHLY, 29, FOLLOWING, 0).duties(0), 23);
        Check.due("duties(0), one", Given.rule(EVERY, 60, SKIP, 718).duties(0), 1);
        Check.due("duties(0), two moved to one", Given.rule(EVERY, 1, PRECEDING, 718).duties(0), 1);
        Obligary o = Given.daily(1);
        Given.finish(o, 0, 3);
        Check.due("duties(0), finished or not", o.duties(0), 515);
        o.holiday(0);
        Check.due("duties(0) with a holiday", o.duties(0), 514);
    }

    private static void dutiesOfNone() {
        Check.sentence("Promise 12: how many due days a rule has: 0 if it has none");
        Check.due("duties(0), Saturdays", Given.rule(EVERY, 7, SKIP, 5).duties(0), 0);
        Check.due("duties(0), the last day", Given.rule(EVERY, 1, FOLLOWING, 719).duties(0), 0);
        Check.due("duties(0), no such day any more", Given.rule(Given.NTH, 1, SKIP, 719).duties(0), 0);
    }

    private static void dutiesOfAll() {
        Check.sentence("Promise 12: how many due days a rule has: all working days");
        for (int shift = 0; shift < 3; shift++) {
            Check.due("duties(0) of shift " + shift, Given.rule(EVERY, 1, shift, 0).duties(0), 515);
        }
    }

    private static void noRuleForDuties() {
        Check.sentence("Promise 12: Throws IndexOutOfBoundsException if there is no such rule");
        for (int count : new int[] {0, 1, 8}) {
            Obligary o = Given.daily(count);
            for (int bad : new int[] {-1, count, 8, LOWEST, HIGHEST}) {
                Check.thrown(INDEX, "duties(" + bad + ")", () -> o.duties(bad));
            }
        }
    }

    private static void nextDueFromADayOn() {
        Check.sentence("Promise 13: Returns the first due day of a rule from a day on");
        Obligary o = Given.rule(MONTHLY, 5, FOLLOWING, 0);
        Check.due("nextDue(0, 0)", o.nextDue(0, 0), 7);
        Check.due("nextDue(0, 5), its nominal day", o.nextDue(0, 5), 7);
        Check.due("nextDue(0, 6)", o.nextDue(0, 6), 7);
        Check.due("nextDue(0, 7), the day itself", o.nextDue(0, 7), 7);
        Check.due("nextDue(0, 8), the day after", o.nextDue(0, 8), 35);
        Check.due("nextDue(0, 695), the last", o.nextDue(0, 695), 695);
        o.setShift(0, PRECEDING);
        Check.due("nextDue(0, 4), moved back", o.nextDue(0, 4), 4);
        Check.due("nextDue(0, 5), moved back before it", o.nextDue(0, 5), 35);
        Obligary daily = Given.daily(1);
        Check.due("nextDue(0, 4), Friday", daily.nextDue(0, 4), 4);
        Check.due("nextDue(0, 5), Saturday", daily.nextDue(0, 5), 7);
        Check.due("nextDue(0, 718)", daily.nextDue(0, 718), 718);
    }

    private static void nextDueOfNone() {
        Check.sentence("Promise 13: NONE if there is none");
        Obligary o = Given.rule(MONTHLY, 5, FOLLOWING, 0);
        Check.due("nextDue(0, 696), after the last", o.nextDue(0, 696), NONE);
        Check.due("nextDue(0, 719)", o.nextDue(0, 719), NONE);
        Check.due("nextDue(0, 719) of each day", Given.daily(1).nextDue(0, 719), NONE);
        Check.due("nextDue(0, 0) without any", Given.rule(EVERY, 7, SKIP, 5).nextDue(0, 0), NONE);
    }

    private static void nextDueFinishedOrNot() {
        Check.sentence("Promise 13: the first due day of a rule from a day on: finished or not, before today or not");
        Obligary o = Given.daily(1);
        Given.finish(o, 0, 3);
        Given.passTo(o, 50);
        Check.due("nextDue(0, 0)", o.nextDue(0, 0), 0);
        Check.due("nextDueByWalking(0, 0)", o.nextDueByWalking(0, 0), 0);
    }

    private static void noRuleForNextDue() {
        Check.sentence("Promise 13: Throws IndexOutOfBoundsException if there is no such rule");
        for (int count : new int[] {0, 1, 8}) {
            Obligary o = Given.daily(count);
            for (int bad : new int[] {-1, count, 8, LOWEST, HIGHEST}) {
                for (int day : new int[] {0, 719, 720}) {
                    Check.thrown(INDEX, "nextDue(" + bad + ", " + day + ")", () -> o.nextDue(bad, day));
                }
            }
        }
    }

    private static void noDayForNextDue() {
        Check.sentence("Promise 13: Throws IndexOutOfBoundsException if there is no such day");
        Obligary o = Given.daily(1);
        o.addRule(EVERY, 7, SKIP, 5, 1, 0);
        for (int bad : NO_DAYS) {
            Check.thrown(INDEX, "nextDue(0, " + bad + ")", () -> o.nextDue(0, bad));
            Check.thrown(INDEX, "nextDue(1, " + bad + ") without duties", () -> o.nextDue(1, bad));
        }
    }

    private static void walkingAnswersTheSame() {
        Check.sentence("Promise 14: Returns the same, found by walking");
        for (int kind = Given.EVERY; kind <= Given.LAST; kind++) {
            for (int shift = FOLLOWING; shift <= SKIP; shift++) {
                for (int n : new int[] {1, 6, 13, 22}) {
                    for (int from = 0; from < 720; from += 240) {
                        sameFrom(kind, n, shift, from);
                    }
                }
            }
        }
    }

    private static void sameFrom(int kind, int n, int shift, int start) {
        Obligary o = Given.rule(kind, n, shift, 40);
        for (int day = 30; day < 60; day += 3) {
            o.holiday(day);
        }
        for (int from = start; from < start + 240; from++) {
            String what = "rule " + kind + " " + n + " " + shift + ", nextDueByWalking(0, " + from + ")";
            Check.due(what, o.nextDueByWalking(0, from), o.nextDue(0, from));
        }
    }

    private static void walkingOverManyDaysOff() {
        Check.sentence("Promise 14: one of the days off next to it, in the direction that the shift tells");
        Obligary o = Given.rule(MONTHLY, 10, FOLLOWING, 0);
        Given.allOff(o, 10, 65);
        Check.due("FOLLOWING: nextDueByWalking(0, 0)", o.nextDueByWalking(0, 0), 66);
        Check.due("FOLLOWING: nextDueByWalking(0, 11)", o.nextDueByWalking(0, 11), 66);
        Check.due("FOLLOWING: nextDueByWalking(0, 66)", o.nextDueByWalking(0, 66), 66);
        Check.due("FOLLOWING: nextDueByWalking(0, 67)", o.nextDueByWalking(0, 67), 70);
        o.setShift(0, PRECEDING);
        Check.due("PRECEDING: nextDueByWalking(0, 0)", o.nextDueByWalking(0, 0), 9);
        Check.due("PRECEDING: nextDueByWalking(0, 9)", o.nextDueByWalking(0, 9), 9);
        Check.due("PRECEDING: nextDueByWalking(0, 10)", o.nextDueByWalking(0, 10), 70);
        o.setShift(0, SKIP);
        Check.due("SKIP: nextDueByWalking(0, 0)", o.nextDueByWalking(0, 0), 70);
        Check.due("SKIP: nextDueByWalking(0, 70)", o.nextDueByWalking(0, 70), 70);
    }

    private static void walkingMeetsTheEnds() {
        Check.sentence("Promise 14: NONE if there is none");
        Check.due("after the last", Given.rule(MONTHLY, 5, FOLLOWING, 0).nextDueByWalking(0, 696), NONE);
        Check.due("on the last day", Given.daily(1).nextDueByWalking(0, 719), NONE);
        Check.due("no duties", Given.rule(EVERY, 7, SKIP, 5).nextDueByWalking(0, 0), NONE);
        Check.due("719, moved on", Given.rule(EVERY, 1, FOLLOWING, 719).nextDueByWalking(0, 0), NONE);
        Check.due("719, moved back", Given.rule(EVERY, 1, PRECEDING, 719).nextDueByWalking(0, 0), 718);
        Check.due("719, moved back, from 718 on", Given.rule(EVERY, 1, PRECEDING, 719).nextDueByWalking(0, 718), 718);
        Check.due("719, moved back, from 719 on", Given.rule(EVERY, 1, PRECEDING, 719).nextDueByWalking(0, 719), NONE);
        Obligary start = Given.rule(EVERY, 60, FOLLOWING, 0);
        start.holiday(0);
        Check.due("0, moved on", start.nextDueByWalking(0, 0), 1);
        start.setShift(0, PRECEDING);
        Check.due("0, with no day before", start.nextDueByWalking(0, 0), 60);
    }

    private static void noRuleForWalking() {
        Check.sentence("Promise 14: Throws IndexOutOfBoundsException if there is no such rule");
        for (int count : new int[] {0, 1, 8}) {
            Obligary o = Given.daily(count);
            for (int bad : new int[] {-1, count, 8, LOWEST, HIGHEST}) {
                for (int day : new int[] {0, 719, 720}) {
                    Check.thrown(INDEX, "nextDueByWalking(" + bad + ", " + day + ")",
                            () -> o.nextDueByWalking(bad, day));
                }
            }
        }
    }

    private static void noDayForWalking() {
        Check.sentence("Promise 14: Throws IndexOutOfBoundsException if there is no such day");
        Obligary o = Given.daily(1);
        o.addRule(EVERY, 7, SKIP, 5, 1, 0);
        for (int bad : NO_DAYS) {
            Check.thrown(INDEX, "nextDueByWalking(0, " + bad + ")", () -> o.nextDueByWalking(0, bad));
            Check.thrown(INDEX, "nextDueByWalking(1, " + bad + ") without duties", () -> o.nextDueByWalking(1, bad));
        }
    }

    /** Due on 7, 35, .. (rule 0), 7, 37, 67, .. (rule 1) and 4, 36, 66, .. (rule 2). */
    private static Obligary three() {
        Obligary o = Given.rule(MONTHLY, 5, FOLLOWING, 0);
        o.addRule(MONTHLY, 7, SKIP, 0, 1, 0);
        o.addRule(MONTHLY, 6, PRECEDING, 0, 1, 0);
        return o;
    }

    private static void upcomingFromADayOn() {
        Check.sentence("Promise 15: one of the duties of all rules that are due from a day on");
        Obligary o = three();
        Check.due("upcoming(0, 0)", o.upcoming(0, 0), 42);
        Check.due("upcoming(4, 0), the day itself", o.upcoming(4, 0), 42);
        Check.due("upcoming(5, 0), the day after", o.upcoming(5, 0), 70);
        Check.due("upcoming(7, 1)", o.upcoming(7, 1), 71);
        Check.due("upcoming(8, 0)", o.upcoming(8, 0), 350);
        Check.due("upcoming(718, 0)", Given.daily(1).upcoming(718, 0), 7180);
    }

    private static void upcomingInTheOrderOfDueDays() {
        Check.sentence("Promise 15: in the order of their due days. place: from 0");
        Obligary o = three();
        int[] want = {42, 70, 71, 350, 362, 371, 650, 662, 671};
        for (int place = 0; place < want.length; place++) {
            Check.due("upcoming(0, " + place + ")", o.upcoming(0, place), want[place]);
        }
    }

    private static void upcomingInTheOrderOfRules() {
        Check.sentence("Promise 15: of those due on one day, in the order of their rules");
        Obligary o = Given.daily(8);
        for (int place = 0; place < 24; place++) {
            Check.due("upcoming(3, " + place + ")", o.upcoming(3, place),
                    10 * (place < 8 ? 3 : place < 16 ? 4 : 7) + place % 8);
        }
    }

    private static void upcomingFinishedOrNot() {
        Check.sentence("Promise 15: finished or not");
        Obligary o = three();
        Given.passTo(o, 50);
        o.finish(2);
        o.finish(0);
        o.finish(0);
        int[] want = {42, 70, 71, 350, 362};
        for (int place = 0; place < want.length; place++) {
            Check.due("upcoming(0, " + place + ")", o.upcoming(0, place), want[place]);
        }
    }

    private static void upcomingTenTimesTheDay() {
        Check.sentence("Promise 15: Returns 10 times the due day and the number of the rule, together");
        Obligary o = Given.daily(8);
        Check.due("upcoming(0, 0)", o.upcoming(0, 0), 0);
        Check.due("upcoming(0, 7)", o.upcoming(0, 7), 7);
        Check.due("upcoming(0, 8)", o.upcoming(0, 8), 10);
        Check.due("upcoming(718, 7)", o.upcoming(718, 7), 7187);
    }

    private static void upcomingOfNone() {
        Check.sentence("Promise 15: NONE if there are not so many");
        Obligary o = Given.daily(8);
        Check.due("upcoming(718, 8)", o.upcoming(718, 8), NONE);
        Check.due("upcoming(719, 0)", o.upcoming(719, 0), NONE);
        for (int place : new int[] {4120, 5759, 5760, 5761, HIGHEST}) {
            Check.due("upcoming(0, " + place + ")", o.upcoming(0, place), NONE);
        }
        Check.due("upcoming(0, 0) without rules", new Obligary().upcoming(0, 0), NONE);
        Check.due("upcoming(0, 0) without duties", Given.rule(EVERY, 7, SKIP, 5).upcoming(0, 0), NONE);
    }

    private static void upcomingOfAll() {
        Check.sentence("Promise 15: NONE if there are not so many: all of 8 rules on 515 days are there");
        Obligary o = Given.daily(8);
        for (int place = 4119; place > 3800; place -= 7) {
            int day = 7 * (place / 40) + place % 40 / 8;
            Check.due("upcoming(0, " + place + ")", o.upcoming(0, place), 10 * day + place % 8);
        }
    }

    private static void noDayForUpcoming() {
        Check.sentence("Promise 15: Throws IndexOutOfBoundsException if there is no such day");
        for (Obligary o : new Obligary[] {new Obligary(), Given.daily(8)}) {
            for (int bad : NO_DAYS) {
                for (int place : new int[] {0, HIGHEST, -1}) {
                    Check.thrown(INDEX, "upcoming(" + bad + ", " + place + ")", () -> o.upcoming(bad, place));
                }
            }
        }
    }

    private static void noPlaceBelow0() {
        Check.sentence("Promise 15: Throws IndexOutOfBoundsException if place is below 0");
        for (Obligary o : new Obligary[] {new Obligary(), Given.daily(8)}) {
            for (int bad : new int[] {-1, -2, LOWEST}) {
                for (int day : new int[] {0, 719}) {
                    Check.thrown(INDEX, "upcoming(" + day + ", " + bad + ")", () -> o.upcoming(day, bad));
                }
            }
        }
    }
}
