/** Promises 7 to 9: poll, reset and ticks. */
public final class ClockTest {
    private static final Due due = new Due();

    public static void main(String[] args) {
        polls();
        wrongPolls();
        resets();
        resetsThatAreRefused();
        resetsInTheWindow();
        due.end();
    }

    private static void polls() {
        Burnerline x = new Burnerline();
        due.is("poll(1)", x.poll(1), 0);
        due.is("ticks behind one", x.ticks(), 1);
        due.is("poll(200)", x.poll(200), 0);
        due.is("ticks behind 201", x.ticks(), 201);
        due.is("time behind 201", x.time(), 201);
        Burnerline y = new Burnerline();
        Due.set(y, true, Due.HEAT, Due.AIR, Due.PRESSURE);
        due.is("poll(200) with heat: purge, pilot, lockout", y.poll(200), 3);
        due.is("reason behind it", y.reason(), 4);
        due.is("time behind it", y.time(), 200 - 23);
        oneByOne();
        for (int state = 0; state <= 6; state++) {
            withoutChange(state);
        }
    }

    /** A tick that leaves the state as it is counts for nothing, in whatever state. */
    private static void withoutChange(int state) {
        Burnerline z = state == 1 ? new Burnerline() : Due.quickIn(state);
        z.signal(Due.HEAT, state != 0);
        if (state == 1) {
            z.poll(1);
        }
        int changes = z.changes();
        due.is("poll(3) in state " + state, z.poll(3), 0);
        due.is("state behind it", z.state(), state);
        due.is("changes behind it", z.changes(), changes);
        due.is("records behind it", z.records(), changes);
    }

    /** One poll of many ticks is the same as many polls of one. */
    private static void oneByOne() {
        Burnerline many = Due.quickIn(4);
        Burnerline one = Due.quickIn(4);
        Due.set(many, false, Due.HEAT, Due.MAIN_EYE, Due.PILOT_EYE);
        Due.set(one, false, Due.HEAT, Due.MAIN_EYE, Due.PILOT_EYE);
        int changes = 0;
        for (int i = 0; i < 40; i++) {
            changes += one.poll(1);
        }
        due.is("poll(40)", many.poll(40), changes);
        due.same("a poll of 40 ticks", Due.asked(many), Due.asked(one));
    }

    private static void wrongPolls() {
        for (int wrong : new int[] {0, 201, -1, Integer.MIN_VALUE, Integer.MAX_VALUE}) {
            Burnerline x = Due.quickIn(1);
            due.refused("poll(" + wrong + ")", IllegalArgumentException.class, x, () -> x.poll(wrong));
            due.is("ticks behind poll(" + wrong + ")", x.ticks(), 1);
        }
    }

    private static void resets() {
        Burnerline x = lockedOut(5);
        due.is("reset", x.reset(), 1);
        due.is("state behind reset", x.state(), 0);
        due.is("reason behind reset", x.reason(), 0);
        due.is("time behind reset", x.time(), 0);
        due.is("ticks behind reset", x.ticks(), 11);
        due.is("changes behind reset", x.changes(), 6);
        due.is("tickOf behind reset", x.tickOf(0), 11);
        due.is("stateOf behind reset", x.stateOf(0), 0);
        due.is("reasonOf behind reset", x.reasonOf(0), 0);
        due.is("air behind reset", x.air(), 60);
        x.setEyes(1, 1, 5);
        x.poll(1);
        due.is("state one tick behind reset", x.state(), 1);
    }

    /** A quick furnace that has been locked out for so many ticks; no eye sees a flame. */
    private static Burnerline lockedOut(int time) {
        Burnerline x = Due.quickIn(6);
        x.poll(time);
        return x;
    }

    private static void resetsThatAreRefused() {
        for (int state = 0; state <= 5; state++) {
            Burnerline x = Due.quickIn(state);
            refused("reset in state " + state, x);
            if (state != 2 && state != 3) {
                x.poll(5);
                refused("reset later from state " + state, x);
            }
        }
        Burnerline young = lockedOut(4);
        refused("reset at time 4", young);
        young.poll(1);
        due.is("reset at time 5", young.reset(), 1);
        refused("reset of an off furnace", young);
        Burnerline late = lockedOut(200);
        due.is("reset at time 200", late.reset(), 1);
        for (int eye : new int[] {Due.PILOT_EYE, Due.MAIN_EYE}) {
            Burnerline lit = lockedOut(5);
            lit.signal(eye, true);
            due.is("light alone is no flame", lit.sees(eye == Due.MAIN_EYE), false);
            lit.poll(1);
            refused("reset with a flame at " + eye, lit);
            lit.signal(eye, false);
            refused("reset while the eye still sees", lit);
            lit.poll(1);
            due.is("reset behind the flame", lit.reset(), 1);
        }
    }

    private static void refused(String call, Burnerline x) {
        due.refused(call, IllegalStateException.class, x, x::reset);
    }

    /** A furnace that locks out a tick behind each reset: its eye sees a flame at once. */
    private static void resetsInTheWindow() {
        Burnerline x = Due.quick();
        resetAt(x, 10, 1);
        resetAt(x, 20, 2);
        resetAt(x, 30, 3);
        lockOutAndPollTo(x, 109);
        refused("a fourth reset 99 ticks behind the first", x);
        x.poll(1);
        due.is("a fourth reset 100 ticks behind the first", x.reset(), 3);
        lockOutAndPollTo(x, 119);
        refused("a fifth reset 99 ticks behind the second", x);
        x.poll(1);
        due.is("a fifth reset 100 ticks behind the second", x.reset(), 3);
        lockOutAndPollTo(x, 129);
        refused("a sixth reset 99 ticks behind the third", x);
        lockOutAndPollTo(x, 310);
        due.is("a reset long behind", x.reset(), 1);
        lockOutAndPollTo(x, 409);
        due.is("a reset 99 ticks behind", x.reset(), 2);
        lockOutAndPollTo(x, 509);
        due.is("a reset 100 ticks behind", x.reset(), 1);
        due.is("tick of the last reset", x.tickOf(0), 509);
    }

    private static void resetAt(Burnerline x, int tick, int answer) {
        lockOutAndPollTo(x, tick);
        due.is("reset at " + tick, x.reset(), answer);
    }

    private static void lockOutAndPollTo(Burnerline x, int tick) {
        x.signal(Due.PILOT_EYE, true);
        x.poll(1);
        due.is("state before a reset", x.state(), 6);
        x.signal(Due.PILOT_EYE, false);
        while (x.ticks() < tick) {
            x.poll(Math.min(200, tick - x.ticks()));
        }
    }
}
