import java.util.Arrays;
import java.util.Random;
import java.util.function.IntSupplier;

/**
 * Promises 1 to 27 on runs of calls drawn with fixed seeds: each answer and each exception must be the model's.
 * A call that throws but changes something shows in the answers after it.
 */
final class ModelTest {
    private static final int RUNS = 250;
    private static final int CALLS = 512;

    private final Obligary real = new Obligary();
    private final Model model = new Model();
    private final Random random;
    private final int seed;
    /** Some runs stay in a few weeks, so that holidays, due days and questions meet. */
    private final int horizon;

    private ModelTest(int seed) {
        this.seed = seed;
        random = new Random(seed);
        horizon = seed % 3 == 0 ? 720 : seed % 3 == 1 ? 75 : 30;
    }

    public static void main(String[] args) {
        for (int seed = 0; seed < RUNS; seed++) {
            ModelTest test = new ModelTest(seed);
            for (int call = 0; call < CALLS; call++) {
                test.call();
            }
        }
        Check.end();
    }

    private void same(String name, IntSupplier got, IntSupplier want, int... args) {
        String call = "seed " + seed + ": " + name + Arrays.toString(args);
        long due;
        try {
            due = want.getAsInt();
        } catch (RuntimeException e) {
            Check.thrown(e.getClass(), call, got::getAsInt);
            return;
        }
        long[] answer = new long[1];
        Check.thrown(null, call, () -> answer[0] = got.getAsInt());
        Check.due(call, answer[0], due);
    }

    private static int bit(boolean answer) {
        return answer ? 1 : 0;
    }

    private int between(int least, int most) {
        return least + random.nextInt(most - least + 1);
    }

    /** Mostly a number in the range, at times one at or beyond its ends. */
    private int around(int least, int most) {
        switch (random.nextInt(50)) {
            case 0: return least - 1;
            case 1: return most + 1;
            case 2: return least;
            case 3: return most;
            case 4: return random.nextBoolean() ? Integer.MIN_VALUE : Integer.MAX_VALUE;
            default: return between(least, most);
        }
    }

    private int day() {
        return random.nextInt(20) == 0 ? around(0, 719) : random.nextInt(horizon);
    }

    private int rule() {
        return around(0, Math.max(0, model.rules() - 1));
    }

    private void call() {
        int chance = random.nextInt(100);
        if (chance < 8) {
            addRule();
        } else if (chance < 20) {
            int day = day();
            same("holiday", () -> bit(real.holiday(day)), () -> bit(model.holiday(day)), day);
        } else if (chance < 23) {
            int days = random.nextInt(4) == 0 ? around(1, 100) : between(1, 3);
            same("pass", () -> real.pass(days), () -> model.pass(days), days);
        } else if (chance < 27) {
            int rule = rule();
            int shift = around(0, 2);
            same("setShift", () -> real.setShift(rule, shift), () -> model.setShift(rule, shift), rule, shift);
        } else if (chance < 31) {
            int rule = rule();
            int other = rule();
            same("require", () -> bit(real.require(rule, other)), () -> bit(model.require(rule, other)), rule, other);
        } else if (chance < 43) {
            int rule = rule();
            same("finish", () -> real.finish(rule), () -> model.finish(rule), rule);
        } else if (chance < 60) {
            askOfRule();
        } else if (chance < 75) {
            askOfDueDays();
        } else {
            askOfLoads();
        }
    }

    private void addRule() {
        int kind = around(0, 3);
        int every = random.nextBoolean() ? between(1, 9) : around(1, 60);
        int n = kind == 0 ? every : kind == 1 ? around(0, 29) : around(1, 22);
        int shift = around(0, 2);
        int first = day();
        int effort = around(1, 9);
        int validity = around(0, 99);
        same("addRule", () -> real.addRule(kind, n, shift, first, effort, validity),
                () -> model.addRule(kind, n, shift, first, effort, validity), kind, n, shift, first, effort, validity);
    }

    private void askOfRule() {
        int rule = rule();
        int day = day();
        switch (random.nextInt(9)) {
            case 0: same("open", () -> real.open(rule), () -> model.open(rule), rule); break;
            case 1: same("finished", () -> real.finished(rule), () -> model.finished(rule), rule); break;
            case 2: same("blockedBy", () -> real.blockedBy(rule), () -> model.blockedBy(rule), rule); break;
            case 3: same("duties", () -> real.duties(rule), () -> model.duties(rule), rule); break;
            case 4: same("lasts", () -> real.lasts(rule), () -> model.lasts(rule), rule); break;
            case 5:
                same("isCovered", () -> bit(real.isCovered(rule, day)), () -> bit(model.isCovered(rule, day)),
                        rule, day);
                break;
            case 6: same("overdue", real::overdue, model::overdue); break;
            case 7: same("rules", real::rules, model::rules); break;
            default: same("today", real::today, model::today); break;
        }
    }

    private void askOfDueDays() {
        int rule = rule();
        int day = day();
        int place = random.nextInt(4) == 0 ? around(0, 700) : between(0, 20);
        switch (random.nextInt(5)) {
            case 0: same("dueDay", () -> real.dueDay(rule, place), () -> model.dueDay(rule, place), rule, place); break;
            case 1: same("nextDue", () -> real.nextDue(rule, day), () -> model.nextDue(rule, day), rule, day); break;
            case 2:
                same("nextDueByWalking", () -> real.nextDueByWalking(rule, day), () -> model.nextDue(rule, day),
                        rule, day);
                break;
            case 3:
                same("upcoming", () -> real.upcoming(day, place), () -> model.upcoming(day, place), day, place);
                break;
            default: same("order", () -> real.order(day, place), () -> model.order(day, place), day, place); break;
        }
    }

    private void askOfLoads() {
        int one = day();
        int two = day();
        boolean isTurned = one > two && random.nextInt(10) != 0;
        int from = isTurned ? two : one;
        int to = isTurned ? one : two;
        int capacity = random.nextBoolean() ? between(1, 12) : around(1, 99);
        int day = random.nextBoolean() || to < from ? day() : (int) ((long) from + random.nextInt(9));
        switch (random.nextInt(6)) {
            case 0: same("isWorking", () -> bit(real.isWorking(day)), () -> bit(model.isWorking(day)), day); break;
            case 1:
                same("workingDays", () -> real.workingDays(from, to), () -> model.workingDays(from, to), from, to);
                break;
            case 2: same("load", () -> real.load(day), () -> model.load(day), day); break;
            case 3: same("heaviest", () -> real.heaviest(from, to), () -> model.heaviest(from, to), from, to); break;
            case 4:
                same("level", () -> real.level(from, to, capacity), () -> model.level(from, to, capacity),
                        from, to, capacity);
                break;
            default:
                same("levelled", () -> real.levelled(from, to, capacity, day),
                        () -> model.levelled(from, to, capacity, day), from, to, capacity, day);
                break;
        }
    }
}
