import java.util.function.IntSupplier;

/** All that can be seen of an object, by fewer than 400 calls; those at the end change it, so it is used up then. */
final class Probe {
    private final Obligary o;
    private final StringBuilder seen = new StringBuilder();

    private Probe(Obligary o) {
        this.o = o;
    }

    static String of(Obligary o) {
        Probe probe = new Probe(o);
        probe.calendar();
        for (int rule = 0; rule < o.rules(); rule++) {
            probe.rule(rule);
        }
        probe.allRules();
        probe.loads();
        probe.changes();
        return probe.seen.toString();
    }

    private void see(String call, IntSupplier asked) {
        seen.append(call).append('=');
        try {
            seen.append(asked.getAsInt());
        } catch (RuntimeException e) {
            seen.append(e.getClass().getSimpleName());
        }
        seen.append('\n');
    }

    private void calendar() {
        see("today", o::today);
        for (int week = 0; week < 103; week++) {
            int monday = 7 * week;
            see("workingDays " + monday, () -> o.workingDays(monday, Math.min(719, monday + 6)));
        }
    }

    private void rule(int rule) {
        see("duties " + rule, () -> o.duties(rule));
        see("dueDay " + rule, () -> o.dueDay(rule, 2));
        see("nextDue " + rule, () -> o.nextDue(rule, 300));
        see("nextDueByWalking " + rule, () -> o.nextDueByWalking(rule, 500));
        see("open " + rule, () -> o.open(rule));
        see("finished " + rule, () -> o.finished(rule));
        see("blockedBy " + rule, () -> o.blockedBy(rule));
        see("isCovered " + rule, () -> o.isCovered(rule, o.today()) ? 1 : 0);
        see("lasts " + rule, () -> o.lasts(rule));
    }

    private void allRules() {
        see("overdue", o::overdue);
        for (int place = 0; place < 10; place++) {
            int asked = place;
            see("upcoming " + place, () -> o.upcoming(o.today(), asked));
            see("order " + place, () -> o.order(Math.min(719, o.today() + 20), asked));
        }
    }

    private void loads() {
        for (int month = 0; month < 24; month++) {
            int start = 30 * month;
            see("heaviest " + month, () -> o.heaviest(start, start + 29));
        }
        for (int day = 0; day < 10; day++) {
            int asked = day;
            see("load " + day, () -> o.load(asked));
            see("levelled " + day, () -> o.levelled(1, 30, 3, asked));
        }
        see("level", () -> o.level(0, 719, 9));
    }

    private void changes() {
        for (int rule = 0; rule < 8; rule++) {
            int asked = rule;
            see("finish " + rule, () -> o.finish(asked));
            for (int other = 0; other < 8; other++) {
                int required = other;
                see("require " + rule + " " + other, () -> o.require(asked, required) ? 1 : 0);
            }
            see("setShift " + rule, () -> o.setShift(asked, Obligary.SKIP));
        }
        see("addRule", () -> o.addRule(Obligary.EVERY, 1, Obligary.SKIP, 0, 1, 0));
        see("pass", () -> o.pass(1));
        see("holiday", () -> o.holiday(1) ? 1 : 0);
    }
}
