import java.util.Arrays;
import java.util.NoSuchElementException;

/**
 * "If several exceptions apply to a call, the one that its throws clause names first is thrown; a call that throws
 * changes nothing": each call with each faulty argument alone and with each two of them together, on objects in the
 * middle of their use, which are looked at all over afterwards.
 */
final class RefusalsTest {
    private static final Class<IndexOutOfBoundsException> INDEX = IndexOutOfBoundsException.class;
    private static final Class<IllegalArgumentException> ARGUMENT = IllegalArgumentException.class;
    private static final Class<IllegalStateException> STATE = IllegalStateException.class;
    private static final Class<NoSuchElementException> MISSING = NoSuchElementException.class;
    private static final int LOWEST = Integer.MIN_VALUE, HIGHEST = Integer.MAX_VALUE;
    private static final int[] DAYS = {-1, 0, 8, 9, 719, 720, LOWEST, HIGHEST};
    private static final int[] PLACES = {-1, 0, HIGHEST, LOWEST};
    private static final int[] CAPACITIES = {0, 1, 99, 100, LOWEST, HIGHEST};
    private static final int[] RULES = {-1, 0, 2, 6, 7, 8, 32, LOWEST, HIGHEST};
    private static final int[] SHIFTS = {-1, 0, 2, 3, LOWEST, HIGHEST};
    private static final int[] PASSED = {LOWEST, -1, 0, 101, 720, HIGHEST, 19, 20, 100};

    private interface Call {
        void on(Obligary o, int[] a);
    }

    /** The exception that is due for the arguments; null if none is. */
    private interface Due {
        Class<? extends RuntimeException> of(int[] a);
    }

    public static void main(String[] args) {
        for (Scene scene : Scene.values()) {
            calendar(scene);
            addRule(scene);
            rules(scene);
            circles(scene);
            dueDays(scene);
            duties(scene);
            evidence(scene);
            loads(scene);
        }
        finishing();
        Check.end();
    }

    private static boolean isDay(int day) {
        return day >= 0 && day <= 719;
    }

    private static Class<? extends RuntimeException> index(boolean isThere) {
        return isThere ? null : INDEX;
    }

    private static int count(Scene scene) {
        return scene == Scene.NEW ? 0 : scene == Scene.BUSY ? 7 : 8;
    }

    private static boolean isRule(Scene scene, int rule) {
        return rule >= 0 && rule < count(scene);
    }

    /** Asks with every choice of one value for each argument. */
    private static void each(Scene scene, String name, Due due, Call call, int[]... values) {
        Check.sentence("If several exceptions apply, the first one; a call that throws changes nothing: " + name);
        int[] a = new int[values.length];
        int choices = 1;
        for (int[] of : values) {
            choices *= of.length;
        }
        for (int choice = 0; choice < choices; choice++) {
            int rest = choice;
            for (int i = 0; i < a.length; i++) {
                a[i] = values[i][rest % values[i].length];
                rest /= values[i].length;
            }
            refused(scene, name, due.of(a), call, a);
        }
    }

    private static void refused(Scene scene, String name, Class<? extends RuntimeException> want, Call call, int... a) {
        if (want != null) {
            String what = scene + ": " + name + Arrays.toString(a);
            Obligary o = scene.make();
            Check.thrown(want, what, () -> call.on(o, a));
            Check.due(what + " changes nothing", Probe.of(o).equals(scene.seen()), true);
        }
    }

    private static void calendar(Scene scene) {
        each(scene, "holiday", a -> index(isDay(a[0])), (o, a) -> o.holiday(a[0]), DAYS);
        each(scene, "isWorking", a -> index(isDay(a[0])), (o, a) -> o.isWorking(a[0]), DAYS);
        each(scene, "workingDays", RefusalsTest::span, (o, a) -> o.workingDays(a[0], a[1]), DAYS, DAYS);
        int today = scene.make().today();
        each(scene, "pass", a -> a[0] < 1 || a[0] > 100 ? ARGUMENT : today + a[0] > 719 ? STATE : null,
                (o, a) -> o.pass(a[0]), PASSED);
    }

    private static Class<? extends RuntimeException> span(int[] a) {
        return !isDay(a[0]) || !isDay(a[1]) ? INDEX : a[1] < a[0] ? ARGUMENT : null;
    }

    private static void addRule(Scene scene) {
        Check.sentence("If several exceptions apply, the first one; a call that throws changes nothing: addRule");
        int[] right = {1, 0, 2, 719, 9, 99};
        int[][] wrong = {{-1, 4, LOWEST, HIGHEST}, {-1, 61, LOWEST, HIGHEST}, {-1, 3, LOWEST, HIGHEST},
            {-1, 720, LOWEST, HIGHEST}, {0, 10, LOWEST, HIGHEST}, {-1, 100, LOWEST, HIGHEST}};
        Class<? extends RuntimeException> rest = count(scene) == 8 ? STATE : null;
        refusedRule(scene, rest, right);
        for (int i = 0; i < right.length; i++) {
            for (int one : wrong[i]) {
                int[] a = right.clone();
                a[i] = one;
                refusedRule(scene, i == 3 ? INDEX : ARGUMENT, a);
                for (int k = i + 1; k < right.length; k++) {
                    for (int other : wrong[k]) {
                        int[] both = a.clone();
                        both[k] = other;
                        refusedRule(scene, i == 3 || k == 3 ? INDEX : ARGUMENT, both);
                    }
                }
            }
        }
        refusedRule(scene, ARGUMENT, 0, 0, 0, 0, 1, 0);
        refusedRule(scene, ARGUMENT, 1, 30, 0, 0, 1, 0);
        refusedRule(scene, ARGUMENT, 2, 0, 0, 0, 1, 0);
        refusedRule(scene, ARGUMENT, 2, 23, 0, 0, 1, 0);
        refusedRule(scene, ARGUMENT, 3, 0, 0, 0, 1, 0);
        refusedRule(scene, ARGUMENT, 3, 23, 0, 0, 1, 0);
    }

    private static void refusedRule(Scene scene, Class<? extends RuntimeException> want, int... values) {
        refused(scene, "addRule", want, (o, a) -> o.addRule(a[0], a[1], a[2], a[3], a[4], a[5]), values);
    }

    private static void rules(Scene scene) {
        each(scene, "setShift", a -> !isRule(scene, a[0]) ? INDEX : a[1] < 0 || a[1] > 2 ? ARGUMENT : null,
                (o, a) -> o.setShift(a[0], a[1]), RULES, SHIFTS);
        each(scene, "require", a -> index(isRule(scene, a[0]) && isRule(scene, a[1])),
                (o, a) -> o.require(a[0], a[1]), RULES, RULES);
    }

    private static void circles(Scene scene) {
        Check.sentence("If several exceptions apply, the first one; a call that throws changes nothing: circles");
        for (int rule = 0; rule < count(scene); rule++) {
            refusedCircle(scene, rule, rule);
        }
        if (scene == Scene.BUSY) {
            int[][] circles = {{0, 4}, {0, 5}, {3, 6}, {0, 6}, {6, 1}, {3, 1}, {0, 1}, {1, 2}, {3, 2}, {0, 2}, {6, 2}};
            for (int[] circle : circles) {
                refusedCircle(scene, circle[0], circle[1]);
            }
        }
        for (int rule = 1; rule < 8 && scene == Scene.FULL; rule++) {
            for (int other = 0; other < rule; other++) {
                refusedCircle(scene, rule, other);
            }
        }
    }

    private static void refusedCircle(Scene scene, int rule, int other) {
        refused(scene, "require", STATE, (o, a) -> o.require(a[0], a[1]), rule, other);
    }

    private static void dueDays(Scene scene) {
        each(scene, "dueDay", a -> index(isRule(scene, a[0]) && a[1] >= 0), (o, a) -> o.dueDay(a[0], a[1]),
                RULES, PLACES);
        each(scene, "duties", a -> index(isRule(scene, a[0])), (o, a) -> o.duties(a[0]), RULES);
        each(scene, "nextDue", a -> index(isRule(scene, a[0]) && isDay(a[1])), (o, a) -> o.nextDue(a[0], a[1]),
                RULES, DAYS);
        each(scene, "nextDueByWalking", a -> index(isRule(scene, a[0]) && isDay(a[1])),
                (o, a) -> o.nextDueByWalking(a[0], a[1]), RULES, DAYS);
        each(scene, "upcoming", a -> index(isDay(a[0]) && a[1] >= 0), (o, a) -> o.upcoming(a[0], a[1]), DAYS, PLACES);
    }

    private static void duties(Scene scene) {
        each(scene, "finish", a -> index(isRule(scene, a[0])), (o, a) -> o.finish(a[0]), RULES);
        each(scene, "open", a -> index(isRule(scene, a[0])), (o, a) -> o.open(a[0]), RULES);
        each(scene, "finished", a -> index(isRule(scene, a[0])), (o, a) -> o.finished(a[0]), RULES);
        each(scene, "blockedBy", a -> index(isRule(scene, a[0])), (o, a) -> o.blockedBy(a[0]), RULES);
        each(scene, "order", a -> index(isDay(a[0]) && a[1] >= 0), (o, a) -> o.order(a[0], a[1]), DAYS, PLACES);
    }

    private static void finishing() {
        Check.sentence("If several exceptions apply, the first one; a call that throws changes nothing: finish");
        Call finish = (o, a) -> o.finish(a[0]);
        refused(Scene.BUSY, "finish, never due, requires an open rule", MISSING, finish, 4);
        refused(Scene.BUSY, "finish, all finished, requires an open rule", MISSING, finish, 5);
        refused(Scene.BUSY, "finish, blocked", STATE, finish, 6);
        for (int rule = 0; rule < 6; rule++) {
            refused(Scene.FULL, "finish, blocked", STATE, finish, rule);
        }
    }

    private static void evidence(Scene scene) {
        each(scene, "isCovered", a -> index(isRule(scene, a[0]) && isDay(a[1])), (o, a) -> o.isCovered(a[0], a[1]),
                RULES, DAYS);
        // Rules 2, 4 and 6 of BUSY, and 1 to 6 of FULL, have no finished duty.
        each(scene, "lasts", a -> !isRule(scene, a[0]) ? INDEX : a[0] == 2 || a[0] == 6 ? MISSING : null,
                (o, a) -> o.lasts(a[0]), RULES);
    }

    private static void loads(Scene scene) {
        each(scene, "load", a -> index(isDay(a[0])), (o, a) -> o.load(a[0]), DAYS);
        each(scene, "heaviest", RefusalsTest::span, (o, a) -> o.heaviest(a[0], a[1]), DAYS, DAYS);
        each(scene, "level", RefusalsTest::spanAndCapacity, (o, a) -> o.level(a[0], a[1], a[2]),
                DAYS, DAYS, CAPACITIES);
        int[] days = {-1, 0, 9, 720};
        each(scene, "levelled", a -> isDay(a[3]) ? spanAndCapacity(a) : INDEX,
                (o, a) -> o.levelled(a[0], a[1], a[2], a[3]), days, days, CAPACITIES, days);
    }

    private static Class<? extends RuntimeException> spanAndCapacity(int[] a) {
        Class<? extends RuntimeException> wrongSpan = span(a);
        return wrongSpan != null ? wrongSpan : a[2] < 1 || a[2] > 99 ? ARGUMENT : null;
    }
}
