import java.util.ArrayList;
import java.util.List;

/** What the tests share: they count the answers that are not due, and lead a furnace to a state. */
final class Due {
    static final int HEAT = 0;
    static final int AIR = 1;
    static final int PRESSURE = 2;
    static final int PILOT_EYE = 3;
    static final int MAIN_EYE = 4;
    static final int CHECK = 5;
    static final int[] EYES = {PILOT_EYE, MAIN_EYE};

    /** An object is good for 512 calls: of many records only so many at each end are asked. */
    private static final int ASKED_AT_EACH_END = 5;

    private int wrong;
    private int asked;

    interface Call {
        void make();
    }

    void is(String call, long got, long want) {
        asked++;
        if (got != want) {
            wrong++;
            System.out.println(call + " answered " + got + ", due is " + want);
        }
    }

    void is(String call, boolean got, boolean want) {
        is(call, got ? 1L : 0L, want ? 1L : 0L);
    }

    void same(String call, Object got, Object want) {
        asked++;
        if (!got.equals(want)) {
            wrong++;
            System.out.println(call + " answered " + got + ", due is " + want);
        }
    }

    void state(String where, Burnerline x, int state, int reason, int time) {
        is("state " + where, x.state(), state);
        is("reason " + where, x.reason(), reason);
        is("time " + where, x.time(), time);
    }

    /** The call throws exactly this exception, and changes nothing that can be asked. */
    void refused(String call, Class<?> kind, Burnerline x, Call made) {
        List<Integer> before = told(x);
        Object thrown = "nothing";
        try {
            made.make();
        } catch (Throwable t) {
            thrown = t.getClass();
        }
        same(call + " throws", thrown, kind);
        same(call + " leaves", told(x), before);
    }

    void end() {
        System.out.println(wrong == 0 ? asked + " answers are as due" : wrong + " answers are not as due");
        if (wrong != 0) {
            System.exit(1);
        }
    }

    /** What can be asked of a furnace. */
    static List<Integer> asked(Burnerline x) {
        List<Integer> all = new ArrayList<>();
        all.add(x.ticks());
        all.add(x.state());
        all.add(x.reason());
        all.add(x.time());
        all.add((x.isOpen(false) ? 1 : 0) + (x.isOpen(true) ? 2 : 0));
        all.add((x.sees(false) ? 1 : 0) + (x.sees(true) ? 2 : 0));
        all.add(x.air());
        all.add(x.fuel());
        all.add(x.purged());
        all.add(x.unlit());
        all.add(x.longestUnlit());
        all.add(x.changes());
        int kept = x.records();
        all.add(kept);
        for (int back = 0; back < kept; back++) {
            if (back < ASKED_AT_EACH_END || back >= kept - ASKED_AT_EACH_END) {
                all.add(x.tickOf(back));
                all.add(x.stateOf(back));
                all.add(x.reasonOf(back));
            }
        }
        all.add(x.reasonsAhead(1));
        all.add(x.reasonsAhead(3));
        all.add(x.toPilot());
        return all;
    }

    /** What can be asked, and the signals and the rate, which answer when they are told anew. */
    private static List<Integer> told(Burnerline x) {
        List<Integer> all = asked(x);
        for (int signal = 0; signal < 6; signal++) {
            boolean on = x.signal(signal, false);
            x.signal(signal, on);
            all.add(on ? 1 : 0);
        }
        int rate = x.setRate(50);
        x.setRate(rate);
        all.add(rate);
        return all;
    }

    static void set(Burnerline x, boolean on, int... signals) {
        for (int signal : signals) {
            x.signal(signal, on);
        }
    }

    /** Polls however many ticks it takes, none too. */
    static void pass(Burnerline x, int ticks) {
        for (int left = ticks; left > 0; left -= 200) {
            x.poll(Math.min(200, left));
        }
    }

    /** A furnace that purges in two ticks and whose eyes believe at once. */
    static Burnerline quick() {
        Burnerline x = new Burnerline();
        x.setEyes(1, 1, 5);
        x.setFurnace(1, 50, 50);
        return x;
    }

    /** Leads a quick furnace, off and cold, to a state from 0 to 6, the time in it being 0. */
    static Burnerline quickIn(int state) {
        return lead(quick(), state);
    }

    static Burnerline lead(Burnerline x, int state) {
        if (state == 0) {
            return x;
        }
        set(x, true, HEAT, AIR, PRESSURE, CHECK);
        x.poll(1);
        if (state >= 2) {
            x.poll(2);
        }
        if (state >= 3) {
            x.signal(PILOT_EYE, true);
            x.poll(1);
        }
        if (state >= 4) {
            x.signal(MAIN_EYE, true);
            x.poll(1);
        }
        if (state == 5) {
            x.signal(HEAT, false);
            x.poll(1);
        }
        if (state == 6) {
            set(x, false, AIR, PILOT_EYE, MAIN_EYE);
            x.poll(1);
        }
        return x;
    }
}
