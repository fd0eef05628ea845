/** Objects in the middle of their use, made by fewer than 100 calls, always in the same way. */
enum Scene {
    NEW {
        @Override
        Obligary make() {
            return new Obligary();
        }
    },

    /** Rules of each kind and shift; rule 4 is never due, rule 5 all finished, rule 6 blocked by 3 and 0. */
    BUSY {
        @Override
        Obligary make() {
            Obligary o = new Obligary();
            o.addRule(Obligary.EVERY, 3, Obligary.FOLLOWING, 1, 2, 9);
            o.addRule(Obligary.MONTHLY, 5, Obligary.PRECEDING, 0, 3, 40);
            o.addRule(Obligary.NTH, 2, Obligary.SKIP, 3, 1, 0);
            o.addRule(Obligary.LAST, 1, Obligary.FOLLOWING, 0, 9, 99);
            o.addRule(Obligary.EVERY, 7, Obligary.SKIP, 5, 4, 7);
            o.addRule(Obligary.EVERY, 60, Obligary.SKIP, 718, 5, 7);
            o.addRule(Obligary.MONTHLY, 29, Obligary.PRECEDING, 40, 6, 7);
            Given.holidays(o, 0, 4, 13, 29, 30, 59, 700, 718);
            o.holiday(718);
            Given.finish(o, 0, 4);
            o.finish(1);
            o.finish(5);
            o.require(4, 0);
            o.require(5, 0);
            o.require(6, 3);
            o.require(6, 0);
            o.require(2, 1);
            o.require(1, 6);
            Given.passTo(o, 33);
            o.finish(0);
            return o;
        }
    },

    /** 8 rules, each of which requires the next, on day 700. */
    FULL {
        @Override
        Obligary make() {
            Obligary o = Given.daily(8);
            o.finish(7);
            o.finish(0);
            for (int rule = 0; rule < 7; rule++) {
                o.require(rule, rule + 1);
            }
            Given.holidays(o, 3, 699, 714);
            Given.passTo(o, 700);
            o.setShift(2, Obligary.PRECEDING);
            return o;
        }
    };

    private String seen;

    abstract Obligary make();

    /** What is seen of it when nothing was asked before. */
    String seen() {
        if (seen == null) {
            seen = Probe.of(make());
        }
        return seen;
    }
}
