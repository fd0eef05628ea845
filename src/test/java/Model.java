import java.util.ArrayList;
import java.util.List;
import java.util.NoSuchElementException;
import java.util.TreeSet;

/** The document's words written down once more, slowly: every list is made from scratch when it is asked for. */
final class Model {
    private final boolean[] holidays = new boolean[720];
    private final List<int[]> rules = new ArrayList<>();
    private final List<Integer> finished = new ArrayList<>();
    private final List<int[]> evidence = new ArrayList<>();
    private final boolean[][] requires = new boolean[8][8];
    private int today = 0;

    private static final int KIND = 0, N = 1, SHIFT = 2, FIRST = 3, EFFORT = 4, VALIDITY = 5;

    private static void index(boolean isThere) {
        if (!isThere) {
            throw new IndexOutOfBoundsException();
        }
    }

    private static void argument(boolean isRight) {
        if (!isRight) {
            throw new IllegalArgumentException();
        }
    }

    private static void state(boolean isRight) {
        if (!isRight) {
            throw new IllegalStateException();
        }
    }

    private static boolean day(int day) {
        return 0 <= day && day <= 719;
    }

    private boolean rule(int rule) {
        return 0 <= rule && rule < rules.size();
    }

    private boolean off(int day) {
        return day % 7 == 5 || day % 7 == 6 || holidays[day];
    }

    private TreeSet<Integer> nominalDays(int[] rule) {
        TreeSet<Integer> nominal = new TreeSet<>();
        if (rule[KIND] == 0) {
            for (int day = rule[FIRST]; day <= 719; day += rule[N]) {
                nominal.add(day);
            }
        }
        for (int month = 0; month < 24 && rule[KIND] != 0; month++) {
            List<Integer> working = new ArrayList<>();
            for (int day = 30 * month; day <= 30 * month + 29; day++) {
                if (!off(day)) {
                    working.add(day);
                }
            }
            if (rule[KIND] == 1) {
                nominal.add(30 * month + rule[N]);
            } else if (rule[N] <= working.size()) {
                nominal.add(working.get(rule[KIND] == 2 ? rule[N] - 1 : working.size() - rule[N]));
            }
        }
        return new TreeSet<>(nominal.tailSet(rule[FIRST]));
    }

    private List<Integer> dueDays(int number) {
        int[] rule = rules.get(number);
        TreeSet<Integer> due = new TreeSet<>();
        for (int nominal : nominalDays(rule)) {
            int day = nominal;
            while (day(day) && off(day)) {
                day = rule[SHIFT] == 0 ? day + 1 : rule[SHIFT] == 1 ? day - 1 : -1;
            }
            if (day(day)) {
                due.add(day);
            }
        }
        return new ArrayList<>(due);
    }

    private List<List<Integer>> allDueDays() {
        List<List<Integer>> all = new ArrayList<>();
        for (int i = 0; i < rules.size(); i++) {
            all.add(dueDays(i));
        }
        return all;
    }

    private static int openOf(List<Integer> due, int done) {
        return done < due.size() ? due.get(done) : -1;
    }

    private int blocker(int rule, List<List<Integer>> due, List<Integer> done) {
        int mine = openOf(due.get(rule), done.get(rule));
        for (int other = 0; other < rules.size() && mine >= 0; other++) {
            int theirs = openOf(due.get(other), done.get(other));
            if (requires[rule][other] && theirs >= 0 && theirs <= mine) {
                return other;
            }
        }
        return -1;
    }

    private boolean reaches(int from, int to) {
        boolean found = from == to;
        for (int next = 0; next < 8; next++) {
            found = found || requires[from][next] && reaches(next, to);
        }
        return found;
    }

    boolean holiday(int day) {
        index(day(day));
        holidays[day] = !holidays[day];
        return holidays[day];
    }

    boolean isWorking(int day) {
        index(day(day));
        return !off(day);
    }

    int workingDays(int from, int to) {
        index(day(from) && day(to));
        argument(from <= to);
        int count = 0;
        for (int day = from; day <= to; day++) {
            count += off(day) ? 0 : 1;
        }
        return count;
    }

    int pass(int days) {
        argument(1 <= days && days <= 100);
        state(today + days <= 719);
        return today += days;
    }

    int today() {
        return today;
    }

    int addRule(int kind, int n, int shift, int first, int effort, int validity) {
        index(day(first));
        argument(0 <= kind && kind <= 3 && 0 <= shift && shift <= 2);
        argument(1 <= effort && effort <= 9 && 0 <= validity && validity <= 99);
        argument(kind == 1 ? 0 <= n && n <= 29 : 1 <= n && n <= (kind == 0 ? 60 : 22));
        state(rules.size() < 8);
        rules.add(new int[] {kind, n, shift, first, effort, validity});
        finished.add(0);
        evidence.add(null);
        return rules.size() - 1;
    }

    int setShift(int rule, int shift) {
        index(rule(rule));
        argument(0 <= shift && shift <= 2);
        int before = rules.get(rule)[SHIFT];
        rules.get(rule)[SHIFT] = shift;
        return before;
    }

    boolean require(int rule, int other) {
        index(rule(rule) && rule(other));
        state(!reaches(other, rule));
        boolean before = requires[rule][other];
        requires[rule][other] = true;
        return !before;
    }

    int rules() {
        return rules.size();
    }

    int dueDay(int rule, int duty) {
        index(rule(rule) && duty >= 0);
        return openOf(dueDays(rule), duty);
    }

    int duties(int rule) {
        index(rule(rule));
        return dueDays(rule).size();
    }

    int nextDue(int rule, int from) {
        index(rule(rule) && day(from));
        for (int due : dueDays(rule)) {
            if (due >= from) {
                return due;
            }
        }
        return -1;
    }

    private List<Integer> listed(int from) {
        TreeSet<Integer> all = new TreeSet<>();
        for (int i = 0; i < rules.size(); i++) {
            for (int due : dueDays(i)) {
                all.add(10 * due + i);
            }
        }
        return new ArrayList<>(all.tailSet(10 * from));
    }

    int upcoming(int from, int place) {
        index(day(from) && place >= 0);
        return openOf(listed(from), place);
    }

    int finish(int rule) {
        index(rule(rule));
        int due = open(rule);
        if (due < 0) {
            throw new NoSuchElementException();
        }
        state(blockedBy(rule) < 0);
        finished.set(rule, finished.get(rule) + 1);
        evidence.set(rule, new int[] {today, today + rules.get(rule)[VALIDITY]});
        return today - due;
    }

    int open(int rule) {
        index(rule(rule));
        return openOf(dueDays(rule), finished.get(rule));
    }

    int finished(int rule) {
        index(rule(rule));
        return finished.get(rule);
    }

    int blockedBy(int rule) {
        index(rule(rule));
        return blocker(rule, allDueDays(), finished);
    }

    int overdue() {
        int count = 0;
        for (int i = 0; i < rules.size(); i++) {
            List<Integer> due = dueDays(i);
            for (int duty = finished.get(i); duty < due.size(); duty++) {
                count += due.get(duty) < today ? 1 : 0;
            }
        }
        return count;
    }

    int order(int until, int place) {
        index(day(until) && place >= 0);
        List<List<Integer>> due = allDueDays();
        List<Integer> done = new ArrayList<>(finished);
        List<Integer> order = new ArrayList<>();
        for (int best = 0; best >= 0 && order.size() <= place;) {
            best = -1;
            for (int i = 0; i < rules.size(); i++) {
                int open = openOf(due.get(i), done.get(i));
                if (open >= 0 && open <= until && blocker(i, due, done) < 0
                        && (best < 0 || open < openOf(due.get(best), done.get(best)))) {
                    best = i;
                }
            }
            if (best >= 0) {
                order.add(best);
                done.set(best, done.get(best) + 1);
            }
        }
        return openOf(order, place);
    }

    boolean isCovered(int rule, int day) {
        index(rule(rule) && day(day));
        int[] span = evidence.get(rule);
        return span != null && span[0] <= day && day <= span[1];
    }

    int lasts(int rule) {
        index(rule(rule));
        if (evidence.get(rule) == null) {
            throw new NoSuchElementException();
        }
        return evidence.get(rule)[1] - today;
    }

    int load(int day) {
        index(day(day));
        int load = 0;
        for (int i = 0; i < rules.size(); i++) {
            load += dueDays(i).contains(day) ? rules.get(i)[EFFORT] : 0;
        }
        return load;
    }

    int heaviest(int from, int to) {
        index(day(from) && day(to));
        argument(from <= to);
        int[] loads = new int[720];
        for (int key : listed(0)) {
            loads[key / 10] += rules.get(key % 10)[EFFORT];
        }
        int best = from;
        for (int day = from; day <= to; day++) {
            best = loads[day] > loads[best] ? day : best;
        }
        return best;
    }

    /** The efforts laid on each day; those that do not fit stand behind the last day. */
    private int[] lay(int from, int to, int capacity) {
        int[] laid = new int[721];
        for (int key : listed(from)) {
            int effort = rules.get(key % 10)[EFFORT];
            int day = key / 10;
            if (day > to) {
                break;
            }
            while (day >= from && (off(day) || laid[day] + effort > capacity)) {
                day--;
            }
            laid[day >= from ? day : 720] += effort;
        }
        return laid;
    }

    int level(int from, int to, int capacity) {
        index(day(from) && day(to));
        argument(from <= to && 1 <= capacity && capacity <= 99);
        return lay(from, to, capacity)[720];
    }

    int levelled(int from, int to, int capacity, int day) {
        index(day(from) && day(to) && day(day));
        argument(from <= to && 1 <= capacity && capacity <= 99);
        return lay(from, to, capacity)[day];
    }
}
