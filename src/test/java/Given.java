/** Makes calendars to ask. No test asks one of them over 512 times: what later calls answer is free. */
final class Given {
    static final int EVERY = Obligary.EVERY, MONTHLY = Obligary.MONTHLY, NTH = Obligary.NTH, LAST = Obligary.LAST;
    static final int FOLLOWING = Obligary.FOLLOWING, PRECEDING = Obligary.PRECEDING, SKIP = Obligary.SKIP;

    private Given() {
    }

    /** One rule, of effort 1 and validity 0. */
    static Obligary rule(int kind, int n, int shift, int first) {
        Obligary o = new Obligary();
        o.addRule(kind, n, shift, first, 1, 0);
        return o;
    }

    /** As many rules, each due on every working day, of effort 1 and validity 0. */
    static Obligary daily(int count) {
        Obligary o = new Obligary();
        for (int i = 0; i < count; i++) {
            o.addRule(EVERY, 1, SKIP, 0, 1, 0);
        }
        return o;
    }

    /** A rule for each of the days, whose nominal days are that day and each 60th one after it. */
    static Obligary dueFrom(int... days) {
        Obligary o = new Obligary();
        for (int day : days) {
            o.addRule(EVERY, 60, SKIP, day, 1, 0);
        }
        return o;
    }

    static void holidays(Obligary o, int... days) {
        for (int day : days) {
            o.holiday(day);
        }
    }

    /** Makes holidays of all days from one to another that are working days. */
    static void allOff(Obligary o, int from, int to) {
        for (int day = from; day <= to; day++) {
            if (day % 7 < 5) {
                o.holiday(day);
            }
        }
    }

    static void finish(Obligary o, int rule, int times) {
        for (int i = 0; i < times; i++) {
            o.finish(rule);
        }
    }

    static void passTo(Obligary o, int day) {
        for (int left = day - o.today(); left > 0; left -= 100) {
            o.pass(Math.min(100, left));
        }
    }
}
