import java.util.ArrayList;
import java.util.Arrays;
import java.util.NoSuchElementException;

/**
 * A calendar of duties. The numbered promises of ../shared/DOC.md say what each public call does,
 * returns and throws; the public calls stand here in their order.
 */
public final class Obligary {
    public static final int NONE = -1;
    public static final int EVERY = 0, MONTHLY = 1, NTH = 2, LAST = 3;
    public static final int FOLLOWING = 0, PRECEDING = 1, SKIP = 2;

    private static final int DAYS = 720;
    private static final int DAYS_OF_WEEK = 7;
    private static final int WEEKDAYS = 5;
    private static final int DAYS_OF_MONTH = 30;
    private static final int MAX_RULES = 8;
    private static final int MAX_DUTIES = MAX_RULES * DAYS;
    private static final int MAX_PASS = 100;
    private static final int MAX_STEP = 60;
    private static final int MAX_NUMBER_IN_MONTH = 22;
    private static final int MAX_EFFORT = 9;
    private static final int MAX_VALIDITY = 99;
    private static final int MAX_CAPACITY = 99;

    private final Calendar calendar = new Calendar();
    private final ArrayList<Rule> rules = new ArrayList<>();
    private int today = 0;

    // Scratch, laid anew by each call that needs it: all that a run makes is counted, so no call
    // makes a row of its own.
    private final int[] laidEfforts = new int[DAYS];

    public Obligary() {
    }

    // ---- the calendar

    public boolean holiday(int day) throws IndexOutOfBoundsException {
        checkDay(day);
        boolean isHolidayNow = calendar.toggleHoliday(day);
        for (int i = 0; i < rules.size(); i++) {
            rules.get(i).layDueDays(calendar);
        }
        return isHolidayNow;
    }

    public boolean isWorking(int day) throws IndexOutOfBoundsException {
        checkDay(day);
        return calendar.works(day);
    }

    public int workingDays(int from, int to) throws IndexOutOfBoundsException, IllegalArgumentException {
        checkSpan(from, to);
        int count = 0;
        for (int day = from; day <= to; day++) {
            if (calendar.works(day)) {
                count++;
            }
        }
        return count;
    }

    public int pass(int days) throws IllegalArgumentException, IllegalStateException {
        checkRange(days, 1, MAX_PASS);
        if (today + days >= DAYS) {
            throw new IllegalStateException("today would be above the last day");
        }
        today += days;
        return today;
    }

    public int today() {
        return today;
    }

    // ---- rules

    public int addRule(int kind, int n, int shift, int first, int effort, int validity)
            throws IndexOutOfBoundsException, IllegalArgumentException, IllegalStateException {
        checkDay(first);
        checkKind(kind, n);
        checkShift(shift);
        checkRange(effort, 1, MAX_EFFORT);
        checkRange(validity, 0, MAX_VALIDITY);
        if (rules.size() >= MAX_RULES) {
            throw new IllegalStateException("there are as many rules as there can be");
        }
        Rule rule = new Rule(kind, n, shift, first, effort, validity);
        rule.layDueDays(calendar);
        rules.add(rule);
        return rules.size() - 1;
    }

    public int setShift(int rule, int shift) throws IndexOutOfBoundsException, IllegalArgumentException {
        Rule changed = ruleAt(rule);
        checkShift(shift);
        int before = changed.shift;
        changed.shift = shift;
        changed.layDueDays(calendar);
        return before;
    }

    public boolean require(int rule, int other) throws IndexOutOfBoundsException, IllegalStateException {
        Rule requiring = ruleAt(rule);
        Rule required = ruleAt(other);
        if (rule == other || required.needs(rule)) {
            throw new IllegalStateException("a rule would require itself");
        }
        if (requiring.requires(other)) {
            return false;
        }
        requiring.required |= 1 << other;
        spreadNeeds(rule, required.needed | 1 << other);
        return true;
    }

    public int rules() {
        return rules.size();
    }

    // ---- due days

    public int dueDay(int rule, int duty) throws IndexOutOfBoundsException {
        Rule asked = ruleAt(rule);
        checkPlace(duty);
        return asked.dayOfDuty(duty);
    }

    public int duties(int rule) throws IndexOutOfBoundsException {
        return ruleAt(rule).countDueBefore(DAYS);
    }

    public int nextDue(int rule, int from) throws IndexOutOfBoundsException {
        Rule asked = ruleAt(rule);
        checkDay(from);
        return asked.firstDueFrom(from);
    }

    public int nextDueByWalking(int rule, int from) throws IndexOutOfBoundsException {
        Rule asked = ruleAt(rule);
        checkDay(from);
        return asked.walkToDue(from, calendar);
    }

    public int upcoming(int from, int place) throws IndexOutOfBoundsException {
        checkDay(from);
        checkPlace(place);
        int before = 0;
        for (int day = from; day < DAYS; day++) {
            for (int i = 0; i < rules.size(); i++) {
                if (rules.get(i).isDueOn(day)) {
                    if (before == place) {
                        return 10 * day + i;
                    }
                    before++;
                }
            }
        }
        return NONE;
    }

    // ---- duties

    public int finish(int rule) throws IndexOutOfBoundsException, NoSuchElementException, IllegalStateException {
        Rule finishing = ruleAt(rule);
        int due = finishing.openDay();
        if (due == NONE) {
            throw new NoSuchElementException("the rule has no open duty");
        }
        foreseeOpenDuties();
        if (leastBlocker(finishing) != NONE) {
            throw new IllegalStateException("the open duty is blocked");
        }
        finishing.finished++;
        finishing.evidenceFrom = today;
        return today - due;
    }

    public int open(int rule) throws IndexOutOfBoundsException {
        return ruleAt(rule).openDay();
    }

    public int finished(int rule) throws IndexOutOfBoundsException {
        return ruleAt(rule).finished;
    }

    public int blockedBy(int rule) throws IndexOutOfBoundsException {
        Rule asked = ruleAt(rule);
        foreseeOpenDuties();
        return leastBlocker(asked);
    }

    public int overdue() {
        int count = 0;
        for (int i = 0; i < rules.size(); i++) {
            Rule rule = rules.get(i);
            // More can be finished than are due by now, even more than there are.
            count += Math.max(0, rule.countDueBefore(today) - rule.finished);
        }
        return count;
    }

    public int order(int until, int place) throws IndexOutOfBoundsException {
        checkDay(until);
        checkPlace(place);
        foreseeOpenDuties();
        for (int done = 0; done < MAX_DUTIES; done++) {
            int chosen = nextInOrder(until);
            if (chosen == NONE || done == place) {
                return chosen;
            }
            Rule rule = ruleAt(chosen);
            rule.foreseenDay = rule.firstDueFrom(rule.foreseenDay + 1);
        }
        return NONE;
    }

    // ---- evidence

    public boolean isCovered(int rule, int day) throws IndexOutOfBoundsException {
        Rule asked = ruleAt(rule);
        checkDay(day);
        return asked.hasEvidence() && day >= asked.evidenceFrom && day <= asked.evidenceUntil();
    }

    public int lasts(int rule) throws IndexOutOfBoundsException, NoSuchElementException {
        Rule asked = ruleAt(rule);
        if (!asked.hasEvidence()) {
            throw new NoSuchElementException("no duty of the rule was ever finished");
        }
        return asked.evidenceUntil() - today;
    }

    // ---- loads

    public int load(int day) throws IndexOutOfBoundsException {
        checkDay(day);
        return effortsDueOn(day);
    }

    public int heaviest(int from, int to) throws IndexOutOfBoundsException, IllegalArgumentException {
        checkSpan(from, to);
        int heaviest = from;
        int greatest = effortsDueOn(from);
        for (int day = from + 1; day <= to; day++) {
            int efforts = effortsDueOn(day);
            if (efforts > greatest) {
                heaviest = day;
                greatest = efforts;
            }
        }
        return heaviest;
    }

    public int level(int from, int to, int capacity) throws IndexOutOfBoundsException, IllegalArgumentException {
        checkSpan(from, to);
        checkRange(capacity, 1, MAX_CAPACITY);
        return layEfforts(from, to, capacity);
    }

    public int levelled(int from, int to, int capacity, int day)
            throws IndexOutOfBoundsException, IllegalArgumentException {
        // A missing day comes before a wrong span, so this check stands first.
        checkDay(day);
        checkSpan(from, to);
        checkRange(capacity, 1, MAX_CAPACITY);
        layEfforts(from, to, capacity);
        return laidEfforts[day];
    }

    // ---- checks of arguments

    private static boolean isDay(int day) {
        return day >= 0 && day < DAYS;
    }

    private static void checkDay(int day) {
        if (!isDay(day)) {
            throw new IndexOutOfBoundsException("there is no such day");
        }
    }

    private static void checkSpan(int from, int to) {
        checkDay(from);
        checkDay(to);
        if (to < from) {
            throw new IllegalArgumentException("the span ends before it begins");
        }
    }

    private static void checkPlace(int place) {
        if (place < 0) {
            throw new IndexOutOfBoundsException("places are counted from 0");
        }
    }

    private static void checkRange(int value, int least, int most) {
        if (value < least || value > most) {
            throw new IllegalArgumentException("an argument is out of range");
        }
    }

    private static void checkKind(int kind, int n) {
        checkRange(kind, EVERY, LAST);
        if (kind == EVERY) {
            checkRange(n, 1, MAX_STEP);
        } else if (kind == MONTHLY) {
            checkRange(n, 0, DAYS_OF_MONTH - 1);
        } else {
            checkRange(n, 1, MAX_NUMBER_IN_MONTH);
        }
    }

    private static void checkShift(int shift) {
        checkRange(shift, FOLLOWING, SKIP);
    }

    private Rule ruleAt(int rule) {
        if (rule < 0 || rule >= rules.size()) {
            throw new IndexOutOfBoundsException("there is no such rule");
        }
        return rules.get(rule);
    }

    // ---- requirements and blocking

    /** Hands what a rule newly needs on to it and to all rules that need it, so that circles are seen at once. */
    private void spreadNeeds(int rule, int newNeeds) {
        for (int i = 0; i < rules.size(); i++) {
            Rule needing = rules.get(i);
            if (i == rule || needing.needs(rule)) {
                needing.needed |= newNeeds;
            }
        }
    }

    private void foreseeOpenDuties() {
        for (int i = 0; i < rules.size(); i++) {
            Rule rule = rules.get(i);
            rule.foreseenDay = rule.openDay();
        }
    }

    /** The least rule that blocks the foreseen duty of a rule; NONE if there is none. */
    private int leastBlocker(Rule blocked) {
        for (int i = 0; i < rules.size(); i++) {
            Rule other = rules.get(i);
            boolean hasDuty = other.foreseenDay != NONE;
            if (blocked.requires(i) && hasDuty && other.foreseenDay <= blocked.foreseenDay) {
                return i;
            }
        }
        return NONE;
    }

    /** The rule whose foreseen duty is to be finished next; NONE if there is none. */
    private int nextInOrder(int until) {
        int chosen = NONE;
        int leastDay = until + 1;
        for (int i = 0; i < rules.size(); i++) {
            Rule rule = rules.get(i);
            boolean hasDuty = rule.foreseenDay != NONE;
            if (hasDuty && rule.foreseenDay < leastDay && leastBlocker(rule) == NONE) {
                chosen = i;
                leastDay = rule.foreseenDay;
            }
        }
        return chosen;
    }

    // ---- efforts

    private int effortsDueOn(int day) {
        int efforts = 0;
        for (int i = 0; i < rules.size(); i++) {
            Rule rule = rules.get(i);
            if (rule.isDueOn(day)) {
                efforts += rule.effort;
            }
        }
        return efforts;
    }

    /** Lays the efforts of a span into laidEfforts and returns those that do not fit, together. */
    private int layEfforts(int from, int to, int capacity) {
        Arrays.fill(laidEfforts, 0);
        int notFitting = 0;
        for (int day = from; day <= to; day++) {
            for (int i = 0; i < rules.size(); i++) {
                Rule rule = rules.get(i);
                if (rule.isDueOn(day) && !layEffort(from, day, capacity, rule.effort)) {
                    notFitting += rule.effort;
                }
            }
        }
        return notFitting;
    }

    /** Lays one effort on the last day from from to due that has room for it; false if none has. */
    private boolean layEffort(int from, int due, int capacity, int effort) {
        for (int day = due; day >= from; day--) {
            if (calendar.works(day) && laidEfforts[day] + effort <= capacity) {
                laidEfforts[day] += effort;
                return true;
            }
        }
        return false;
    }

    /** Tells working days from days off, and the numbers of the working days in their months. */
    private static final class Calendar {
        private final boolean[] holidays = new boolean[DAYS];
        // 0 stands for a day off. They are kept because each laying of due days asks for them all.
        private final int[] numbersFromStart = new int[DAYS];
        private final int[] numbersFromEnd = new int[DAYS];

        Calendar() {
            for (int start = 0; start < DAYS; start += DAYS_OF_MONTH) {
                numberMonthOf(start);
            }
        }

        boolean toggleHoliday(int day) {
            if (!isDay(day)) {
                return false;
            }
            holidays[day] = !holidays[day];
            numberMonthOf(day);
            return holidays[day];
        }

        boolean works(int day) {
            return isDay(day) && day % DAYS_OF_WEEK < WEEKDAYS && !holidays[day];
        }

        int numberFromStart(int day) {
            return isDay(day) ? numbersFromStart[day] : 0;
        }

        int numberFromEnd(int day) {
            return isDay(day) ? numbersFromEnd[day] : 0;
        }

        private void numberMonthOf(int day) {
            int start = day - day % DAYS_OF_MONTH;
            int end = start + DAYS_OF_MONTH - 1;
            int workingDays = 0;
            for (int d = start; d <= end && isDay(d); d++) {
                if (works(d)) {
                    workingDays++;
                }
                numbersFromStart[d] = works(d) ? workingDays : 0;
            }
            for (int d = start; d <= end && isDay(d); d++) {
                numbersFromEnd[d] = works(d) ? workingDays + 1 - numbersFromStart[d] : 0;
            }
        }
    }

    /** A rule with its due days, and with what is finished of it. */
    private static final class Rule {
        final int kind;
        final int n;
        final int first;
        final int effort;
        final int validity;
        int shift;
        // Sets of rules: bit i stands for rule i. What is needed is required directly or over others.
        int required = 0;
        int needed = 0;
        int finished = 0;
        int evidenceFrom = NONE;
        // Scratch: the due day of the open duty, or of the one that is open later in an order that
        // is only foreseen; NONE if there is none.
        int foreseenDay = NONE;
        private final boolean[] dueDays = new boolean[DAYS];

        Rule(int kind, int n, int shift, int first, int effort, int validity) {
            this.kind = kind;
            this.n = n;
            this.shift = shift;
            this.first = first;
            this.effort = effort;
            this.validity = validity;
        }

        boolean requires(int other) {
            return (required & 1 << other) != 0;
        }

        boolean needs(int other) {
            return (needed & 1 << other) != 0;
        }

        /** Finds all due days anew; called whenever the rule or a holiday changes. */
        void layDueDays(Calendar calendar) {
            // The sweep runs the way the shift moves, so a nominal day off waits for the next
            // working day of the sweep, and several that wait for the same one meet there.
            boolean isWaiting = false;
            for (int step = 0; step < DAYS; step++) {
                int day = shift == PRECEDING ? DAYS - 1 - step : step;
                boolean works = calendar.works(day);
                isWaiting = isWaiting || isNominal(day, calendar);
                dueDays[day] = works && isWaiting;
                if (works || shift == SKIP) {
                    isWaiting = false;
                }
            }
        }

        boolean isDueOn(int day) {
            return isDay(day) && dueDays[day];
        }

        int dayOfDuty(int duty) {
            int before = 0;
            for (int day = 0; day < DAYS; day++) {
                if (dueDays[day]) {
                    if (before == duty) {
                        return day;
                    }
                    before++;
                }
            }
            return NONE;
        }

        int countDueBefore(int end) {
            int count = 0;
            for (int day = 0; day < end; day++) {
                if (isDueOn(day)) {
                    count++;
                }
            }
            return count;
        }

        int firstDueFrom(int from) {
            for (int day = from; day < DAYS; day++) {
                if (isDueOn(day)) {
                    return day;
                }
            }
            return NONE;
        }

        int openDay() {
            return dayOfDuty(finished);
        }

        boolean hasEvidence() {
            return evidenceFrom != NONE;
        }

        int evidenceUntil() {
            return evidenceFrom + validity;
        }

        /** The same as firstDueFrom, without the due days that are kept. */
        int walkToDue(int from, Calendar calendar) {
            for (int day = from; day < DAYS; day++) {
                if (calendar.works(day) && (isNominal(day, calendar) || isMovedTo(day, calendar))) {
                    return day;
                }
            }
            return NONE;
        }

        /** Whether the shift moves a nominal day off to this working day. */
        private boolean isMovedTo(int day, Calendar calendar) {
            if (shift == SKIP) {
                return false;
            }
            int away = shift == FOLLOWING ? -1 : 1;
            for (int off = day + away; off >= 0 && off < DAYS && !calendar.works(off); off += away) {
                if (isNominal(off, calendar)) {
                    return true;
                }
            }
            return false;
        }

        private boolean isNominal(int day, Calendar calendar) {
            if (day < first) {
                return false;
            }
            switch (kind) {
                case EVERY:
                    return n > 0 && (day - first) % n == 0;
                case MONTHLY:
                    return day % DAYS_OF_MONTH == n;
                case NTH:
                    return calendar.numberFromStart(day) == n;
                default:
                    return calendar.numberFromEnd(day) == n;
            }
        }
    }
}
