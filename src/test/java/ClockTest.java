/** Promises 7 to 9: poll, reset and ticks. */
public final class ClockTest {
    private static final Due due = new Due();

    public static void main(String[] args) {
        polls();
        wrongPolls();
        resets();
        onlyInALockout();
        notTooSoon();
        notWithAFlame();
        whatAResetLeaves();
        resetsInTheWindow();
        refusedResetsAreNotCounted();
        resetsInAHurry();
        resetsThatCount();
        aWholeLife();
        due.end();
    }

    private static void polls() {
        Burnerline x = new Burnerline();
        due.is("poll(1)", x.poll(1), 0);
        due.is("ticks behind one", x.ticks(), 1);
        due.is("poll(200)", x.poll(200), 0);
        due.is("ticks behind 201", x.ticks(), 201);
        due.is("time behind 201", x.time(), 201);
        Burnerline y = new Burnerline();
        Due.set(y, true, Due.HEAT, Due.AIR, Due.PRESSURE);
        due.is("poll(200) with heat: purge, pilot, lockout", y.poll(200), 3);
        due.is("reason behind it", y.reason(), 4);
        due.is("time behind it", y.time(), 200 - 23);
        oneByOne();
        for (int state = 0; state <= 6; state++) {
            withoutChange(state);
        }
    }

    /** A tick that leaves the state as it is counts for nothing, in whatever state. */
    private static void withoutChange(int state) {
        Burnerline z = state == 1 ? new Burnerline() : Due.quickIn(state);
        z.signal(Due.HEAT, state != 0);
        if (state == 1) {
            z.poll(1);
        }
        int changes = z.changes();
        due.is("poll(3) in state " + state, z.poll(3), 0);
        due.is("state behind it", z.state(), state);
        due.is("changes behind it", z.changes(), changes);
        due.is("records behind it", z.records(), changes);
    }

    /** One poll of many ticks is the same as many polls of one. */
    private static void oneByOne() {
        Burnerline many = Due.quickIn(4);
        Burnerline one = Due.quickIn(4);
        Due.set(many, false, Due.HEAT, Due.MAIN_EYE, Due.PILOT_EYE);
        Due.set(one, false, Due.HEAT, Due.MAIN_EYE, Due.PILOT_EYE);
        int changes = 0;
        for (int i = 0; i < 40; i++) {
            changes += one.poll(1);
        }
        due.is("poll(40)", many.poll(40), changes);
        due.same("a poll of 40 ticks", Due.asked(many), Due.asked(one));
    }

    private static void wrongPolls() {
        for (int wrong : new int[] {0, 201, -1, Integer.MIN_VALUE, Integer.MAX_VALUE}) {
            Burnerline x = Due.quickIn(1);
            due.refused("poll(" + wrong + ")", IllegalArgumentException.class, x, () -> x.poll(wrong));
            due.is("ticks behind poll(" + wrong + ")", x.ticks(), 1);
        }
    }

    private static void resets() {
        Burnerline x = lockedOut(5);
        due.is("reset", x.reset(), 1);
        due.is("state behind reset", x.state(), 0);
        due.is("reason behind reset", x.reason(), 0);
        due.is("time behind reset", x.time(), 0);
        due.is("ticks behind reset", x.ticks(), 11);
        due.is("changes behind reset", x.changes(), 6);
        due.is("tickOf behind reset", x.tickOf(0), 11);
        due.is("stateOf behind reset", x.stateOf(0), 0);
        due.is("reasonOf behind reset", x.reasonOf(0), 0);
        due.is("air behind reset", x.air(), 60);
        x.setEyes(1, 1, 5);
        x.poll(1);
        due.is("state one tick behind reset", x.state(), 1);
    }

    /** A quick furnace that has been locked out for so many ticks; no eye sees a flame. */
    private static Burnerline lockedOut(int time) {
        Burnerline x = Due.quickIn(6);
        x.poll(time);
        return x;
    }

    private static void onlyInALockout() {
        for (int state = 0; state <= 5; state++) {
            Burnerline x = Due.quickIn(state);
            refused("reset in state " + state, x);
            if (state != 2 && state != 3) {
                x.poll(5);
                refused("reset later from state " + state, x);
            }
        }
        Burnerline off = lockedOut(5);
        due.is("reset of a lockout", off.reset(), 1);
        refused("reset of an off furnace", off);
        off.signal(Due.HEAT, false);
        off.poll(5);
        refused("reset of a furnace that is off for long", off);
    }

    private static void notTooSoon() {
        for (int time = 0; time <= 4; time++) {
            Burnerline young = Due.quickIn(6);
            Due.pass(young, time);
            refused("reset at time " + time, young);
            young.poll(5 - time);
            due.is("time of the lockout", young.time(), 5);
            due.is("reset at time 5", young.reset(), 1);
        }
        due.is("reset at time 6", lockedOut(6).reset(), 1);
        due.is("reset at time 200", lockedOut(200).reset(), 1);
    }

    private static void notWithAFlame() {
        for (int eye : Due.EYES) {
            Burnerline lit = lockedOut(5);
            lit.signal(eye, true);
            lit.poll(1);
            refused("reset with a flame at " + eye, lit);
            lit.signal(eye, false);
            refused("reset while the eye still sees", lit);
            lit.poll(1);
            due.is("reset behind the flame", lit.reset(), 1);
            Burnerline light = lockedOut(5);
            light.signal(eye, true);
            due.is("light alone is no flame", light.sees(eye == Due.MAIN_EYE), false);
            due.is("reset with light that is not seen", light.reset(), 1);
            Burnerline young = lockedOut(3);
            young.signal(eye, true);
            young.poll(1);
            refused("reset at time 4 with a flame at " + eye, young);
            young.signal(eye, false);
            young.poll(1);
            due.is("reset at time 5 as the flame goes", young.reset(), 1);
        }
        Burnerline both = lockedOut(5);
        Due.set(both, true, Due.EYES);
        both.poll(1);
        refused("reset with a flame at both eyes", both);
    }

    /** Of the state it changes what begins with a state, and nothing else. */
    private static void whatAResetLeaves() {
        Burnerline x = Due.quickIn(2);
        x.poll(10);
        due.is("state of a pilot that is not lit", x.state(), 6);
        x.poll(5);
        due.is("reset", x.reset(), 1);
        due.is("ticks behind a reset", x.ticks(), 18);
        due.is("air behind a reset", x.air(), 60);
        due.is("fuel behind a reset", x.fuel(), 0);
        due.is("purged behind a reset", x.purged(), 0);
        due.is("unlit behind a reset", x.unlit(), 0);
        due.is("longestUnlit behind a reset", x.longestUnlit(), 10);
        for (int signal = 0; signal < 6; signal++) {
            boolean on = signal == Due.HEAT || signal == Due.AIR || signal == Due.PRESSURE || signal == Due.CHECK;
            due.is("signal " + signal + " behind a reset", x.signal(signal, on), on);
        }
        due.is("rate behind a reset", x.setRate(50), 50);
        due.is("toPilot behind a reset", x.toPilot(), 3);
    }

    private static void refused(String call, Burnerline x) {
        due.refused(call, IllegalStateException.class, x, x::reset);
    }

    /** A furnace that locks out a tick behind each reset: its eye sees a flame at once. */
    private static void resetsInTheWindow() {
        Burnerline x = Due.quick();
        resetAt(x, 10, 1);
        resetAt(x, 20, 2);
        resetAt(x, 30, 3);
        lockOutAndPollTo(x, 109);
        refused("a fourth reset 99 ticks behind the first", x);
        x.poll(1);
        due.is("a fourth reset 100 ticks behind the first", x.reset(), 3);
        lockOutAndPollTo(x, 119);
        refused("a fifth reset 99 ticks behind the second", x);
        x.poll(1);
        due.is("a fifth reset 100 ticks behind the second", x.reset(), 3);
        lockOutAndPollTo(x, 129);
        refused("a sixth reset 99 ticks behind the third", x);
        lockOutAndPollTo(x, 310);
        due.is("a reset long behind", x.reset(), 1);
        lockOutAndPollTo(x, 409);
        due.is("a reset 99 ticks behind", x.reset(), 2);
        lockOutAndPollTo(x, 509);
        due.is("a reset 100 ticks behind", x.reset(), 1);
        due.is("tick of the last reset", x.tickOf(0), 509);
    }

    /** However often it is refused, a reset that is refused is none. */
    private static void refusedResetsAreNotCounted() {
        Burnerline x = Due.quick();
        resetAt(x, 10, 1);
        lockOutAndPollTo(x, 15);
        for (int i = 0; i < 5; i++) {
            int answer = 0;
            try {
                answer = x.reset();
            } catch (IllegalStateException e) {
                answer = -1;
            }
            due.is("reset too soon", answer, -1);
        }
        x.poll(1);
        due.is("a reset behind some that were refused", x.reset(), 2);
        resetAt(x, 30, 3);
        lockOutAndPollTo(x, 40);
        refused("a fourth reset", x);
        x.poll(69);
        refused("a fourth reset, 99 ticks behind the first", x);
        x.poll(1);
        due.is("a fourth reset, 100 ticks behind the first", x.reset(), 3);
    }

    /** As soon as can be: a tick to the lockout, and five in it. */
    private static void resetsInAHurry() {
        Burnerline x = Due.quick();
        resetAt(x, 6, 1);
        resetAt(x, 12, 2);
        resetAt(x, 18, 3);
        lockOutAndPollTo(x, 24);
        refused("a fourth reset in a hurry", x);
        x.poll(81);
        due.is("ticks", x.ticks(), 105);
        refused("a fourth reset 99 ticks behind the first", x);
        x.poll(1);
        due.is("a fourth reset 100 ticks behind the first", x.reset(), 3);
        lockOutAndPollTo(x, 112);
        due.is("a fifth reset 100 ticks behind the second", x.reset(), 3);
        lockOutAndPollTo(x, 118);
        due.is("a sixth reset 100 ticks behind the third", x.reset(), 3);
        lockOutAndPollTo(x, 205);
        refused("a seventh reset 99 ticks behind the fourth", x);
    }

    /** What is answered when one, two and three of the resets before are still to be counted. */
    private static void resetsThatCount() {
        int[][] ticks = {{99, 2}, {100, 1}, {101, 1}, {1000, 1}, {6, 2}};
        for (int[] later : ticks) {
            Burnerline x = Due.quick();
            resetAt(x, 10, 1);
            resetAt(x, 10 + later[0], later[1]);
        }
        Burnerline both = Due.quick();
        resetAt(both, 10, 1);
        resetAt(both, 60, 2);
        resetAt(both, 109, 3);
        Burnerline second = Due.quick();
        resetAt(second, 10, 1);
        resetAt(second, 60, 2);
        resetAt(second, 110, 2);
        Burnerline none = Due.quick();
        resetAt(none, 10, 1);
        resetAt(none, 60, 2);
        resetAt(none, 160, 1);
    }

    /** An object is good for 512 calls, and the last one is as good as the first. */
    private static void aWholeLife() {
        Burnerline still = new Burnerline();
        for (int call = 1; call <= 511; call++) {
            due.is("poll at call " + call, still.poll(200), 0);
        }
        due.is("ticks at call 512", still.ticks(), 102200);
        Burnerline busy = new Burnerline();
        for (int call = 2; call <= 510; call += 2) {
            busy.signal(Due.HEAT, call % 4 == 2);
            due.is("poll at call " + call, busy.poll(1), 1);
        }
        due.is("changes at call 511", busy.changes(), 255);
        due.is("tickOf(99) at call 512", busy.tickOf(99), 156);
        Burnerline run = Due.quickIn(4);
        for (int call = 10; call <= 500; call++) {
            due.is("poll at call " + call, run.poll(200), 0);
        }
        due.is("time of a run as long as can be", run.time(), 491 * 200);
    }

    private static void resetAt(Burnerline x, int tick, int answer) {
        lockOutAndPollTo(x, tick);
        due.is("reset at " + tick, x.reset(), answer);
    }

    private static void lockOutAndPollTo(Burnerline x, int tick) {
        x.signal(Due.PILOT_EYE, true);
        x.poll(1);
        due.is("state before a reset", x.state(), 6);
        x.signal(Due.PILOT_EYE, false);
        Due.pass(x, tick - x.ticks());
    }
}
