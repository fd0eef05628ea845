/**
 * "Nothing is promised beyond the answers and state changes described above": calls that only ask change nothing, and
 * objects do not meet. "Nothing changes" is said of order() and level() in so many words.
 */
final class AskingTest {
    private interface Call {
        void on(Obligary o);
    }

    public static void main(String[] args) {
        calendar();
        dueDays();
        duties();
        evidenceAndLoads();
        requirementsThatStand();
        otherObjects();
        Check.end();
    }

    private static void asks(String name, Call call) {
        Check.sentence("calls that only ask change nothing: " + name);
        for (Scene scene : Scene.values()) {
            if (scene != Scene.NEW || !name.contains("rule")) {
                Obligary o = scene.make();
                Check.thrown(null, scene + ": " + name, () -> call.on(o));
                Check.due(scene + ": " + name + " changes nothing", Probe.of(o).equals(scene.seen()), true);
            }
        }
    }

    private static void calendar() {
        asks("isWorking(0)", o -> o.isWorking(0));
        asks("isWorking(718)", o -> o.isWorking(718));
        asks("workingDays(0, 719)", o -> o.workingDays(0, 719));
        asks("today()", o -> o.today());
        asks("rules()", o -> o.rules());
    }

    private static void dueDays() {
        asks("dueDay(rule 0, 3)", o -> o.dueDay(0, 3));
        asks("dueDay(rule 6, MAX)", o -> o.dueDay(6, Integer.MAX_VALUE));
        asks("duties(rule 3)", o -> o.duties(3));
        asks("nextDue(rule 0, 0)", o -> o.nextDue(0, 0));
        asks("nextDue(rule 5, 719)", o -> o.nextDue(5, 719));
        asks("nextDueByWalking(rule 0, 0)", o -> o.nextDueByWalking(0, 0));
        asks("nextDueByWalking(rule 5, 719)", o -> o.nextDueByWalking(5, 719));
        asks("upcoming(0, 0)", o -> o.upcoming(0, 0));
        asks("upcoming(0, MAX)", o -> o.upcoming(0, Integer.MAX_VALUE));
    }

    private static void duties() {
        asks("open(rule 0)", o -> o.open(0));
        asks("open(rule 5)", o -> o.open(5));
        asks("finished(rule 0)", o -> o.finished(0));
        asks("blockedBy(rule 6)", o -> o.blockedBy(6));
        asks("blockedBy(rule 0)", o -> o.blockedBy(0));
        asks("overdue()", o -> o.overdue());
        asks("order(719, 0)", o -> o.order(719, 0));
        asks("order(719, 100)", o -> o.order(719, 100));
        asks("order(719, MAX)", o -> o.order(719, Integer.MAX_VALUE));
        asks("order(0, MAX)", o -> o.order(0, Integer.MAX_VALUE));
    }

    private static void evidenceAndLoads() {
        asks("isCovered(rule 0, 33)", o -> o.isCovered(0, 33));
        asks("isCovered(rule 2, 719)", o -> o.isCovered(2, 719));
        asks("lasts(rule 0)", o -> o.lasts(0));
        asks("load(9)", o -> o.load(9));
        asks("heaviest(0, 719)", o -> o.heaviest(0, 719));
        asks("level(0, 719, 1)", o -> o.level(0, 719, 1));
        asks("level(0, 719, 99)", o -> o.level(0, 719, 99));
        asks("levelled(0, 719, 1, 9)", o -> o.levelled(0, 719, 1, 9));
        asks("levelled(0, 719, 99, 719)", o -> o.levelled(0, 719, 99, 719));
    }

    private static void requirementsThatStand() {
        Check.sentence("require: false if it did before, and nothing changes by it");
        Obligary busy = Scene.BUSY.make();
        Check.due("BUSY: require(6, 3)", busy.require(6, 3), false);
        Check.due("BUSY: require(6, 3) changes nothing", Probe.of(busy).equals(Scene.BUSY.seen()), true);
        Obligary full = Scene.FULL.make();
        Check.due("FULL: require(0, 1)", full.require(0, 1), false);
        Check.due("FULL: require(0, 1) changes nothing", Probe.of(full).equals(Scene.FULL.seen()), true);
    }

    private static void otherObjects() {
        Check.sentence("Creates a calendar: what is done with others does not change it");
        Obligary first = Scene.BUSY.make();
        Obligary second = new Obligary();
        Obligary third = Scene.FULL.make();
        Probe.of(third);
        Check.due("BUSY, made before others", Probe.of(first).equals(Scene.BUSY.seen()), true);
        Check.due("NEW, made between others", Probe.of(second).equals(Scene.NEW.seen()), true);
    }
}
