/** Promises 25 and 26: what could happen in one to three ticks. */
public final class AheadTest {
    private static final Due due = new Due();

    public static void main(String[] args) {
        fromOff();
        fromPurge();
        fromPilot();
        behindOneOfTheTicks();
        fromMain();
        fromRun();
        fromAfterPurge();
        fromLockout();
        slowEyes();
        timesThatAreUp();
        eyesThatNeedTicks();
        statesInARow();
        whateverTheSignals();
        wrongInputs();
        due.end();
    }

    /** The states that could be, bit s for state s, and the reasons. */
    private static void ahead(String where, Burnerline x, int ticks, int states, int reasons) {
        int found = 0;
        for (int state = 0; state <= 6; state++) {
            found |= x.couldBe(state, ticks) ? 1 << state : 0;
        }
        due.is("states " + where + " in " + ticks, found, states);
        due.is("reasons " + where + " in " + ticks, x.reasonsAhead(ticks), reasons);
    }

    private static int set(int... members) {
        int bits = 0;
        for (int member : members) {
            bits |= 1 << member;
        }
        return bits;
    }

    private static void fromOff() {
        Burnerline x = new Burnerline();
        ahead("from new", x, 1, set(0, 1), 0);
        ahead("from new", x, 2, set(0, 1, 6), set(3));
        ahead("from new", x, 3, set(0, 1, 6), set(3));
        Burnerline quick = Due.quick();
        ahead("from off", quick, 1, set(0, 1, 6), set(3));
        ahead("from off", quick, 2, set(0, 1, 6), set(3));
        ahead("from off", quick, 3, set(0, 1, 2, 6), set(3));
        quick.setTimes(1, 1, 1, 1);
        ahead("from off with a short purge", quick, 1, set(0, 1, 6), set(3));
        ahead("from off with a short purge", quick, 2, set(0, 1, 6), set(3, 7));
    }

    private static void fromPurge() {
        Burnerline x = Due.quickIn(1);
        ahead("from purge", x, 1, set(0, 1, 6), set(3));
        ahead("from purge", x, 2, set(0, 1, 2, 6), set(3));
        ahead("from purge", x, 3, set(0, 1, 2, 3, 5, 6), set(1, 2, 3));
        Burnerline late = new Burnerline();
        late.setTimes(5, 10, 5, 15);
        Due.lead(late, 1);
        late.poll(3);
        ahead("from purge near its end", late, 1, set(0, 1), 0);
        ahead("from purge near its end", late, 2, set(0, 1, 6), set(3, 7));
    }

    private static void fromPilot() {
        Burnerline x = Due.quickIn(2);
        ahead("from pilot", x, 1, set(2, 3, 5, 6), set(1, 2));
        ahead("from pilot", x, 2, set(2, 3, 4, 5, 6), set(1, 2));
        ahead("from pilot", x, 3, set(2, 3, 4, 5, 6), set(1, 2, 6));
        x.poll(7);
        ahead("from an old pilot", x, 2, set(2, 3, 4, 5, 6), set(1, 2));
        ahead("from an old pilot", x, 3, set(2, 3, 4, 5, 6), set(1, 2, 4, 6));
    }

    /** Pilot and main last a tick each: what could only be behind the first tick counts later too. */
    private static void behindOneOfTheTicks() {
        Burnerline x = Due.quick();
        x.setTimes(60, 1, 1, 15);
        Due.lead(x, 2);
        ahead("from a short pilot", x, 1, set(3, 5, 6), set(1, 2, 4));
        ahead("from a short pilot", x, 2, set(3, 4, 5, 6), set(1, 2, 4, 5));
        ahead("from a short pilot", x, 3, set(3, 4, 5, 6), set(1, 2, 4, 5, 6));
    }

    private static void fromMain() {
        Burnerline x = Due.quickIn(3);
        ahead("from main", x, 1, set(3, 4, 5, 6), set(1, 2));
        ahead("from main", x, 2, set(3, 4, 5, 6), set(1, 2, 6));
        x.poll(4);
        ahead("from an old main", x, 1, set(4, 5, 6), set(1, 2, 5));
        ahead("from an old main", x, 3, set(4, 5, 6), set(1, 2, 5, 6));
    }

    private static void fromRun() {
        Burnerline x = Due.quickIn(4);
        ahead("from run", x, 1, set(4, 5, 6), set(1, 2, 6));
        x.poll(2);
        ahead("from run before the check", x, 2, set(4, 5, 6), set(1, 2, 6));
        ahead("from run before the check", x, 3, set(4, 5, 6), set(1, 2, 6, 8));
        x.poll(2);
        ahead("from run at the check", x, 1, set(4, 5, 6), set(1, 2, 6, 8));
    }

    private static void fromAfterPurge() {
        Burnerline x = Due.quickIn(5);
        ahead("from after-purge", x, 3, set(5), 0);
        x.poll(12);
        ahead("from after-purge near its end", x, 2, set(5), 0);
        ahead("from after-purge near its end", x, 3, set(0, 5, 6), set(3));
        x.poll(2);
        ahead("from after-purge at its end", x, 1, set(0, 6), set(3));
        ahead("from after-purge at its end", x, 2, set(0, 1, 6), set(3));
    }

    private static void fromLockout() {
        Burnerline x = Due.quickIn(6);
        for (int ticks = 1; ticks <= 3; ticks++) {
            ahead("from lockout", x, ticks, set(6), 0);
        }
        x.poll(20);
        ahead("from an old lockout", x, 3, set(6), 0);
    }

    /** The rows of the eyes go on in the walk, and the walk does not need the signals of now. */
    private static void slowEyes() {
        Burnerline x = new Burnerline();
        x.setEyes(4, 5, 5);
        x.signal(Due.PILOT_EYE, true);
        ahead("before any light", x, 3, set(0, 1), 0);
        x.poll(1);
        ahead("behind a tick of light", x, 2, set(0, 1), 0);
        ahead("behind a tick of light", x, 3, set(0, 1, 6), set(3));
        x.signal(Due.PILOT_EYE, false);
        ahead("behind a tick of light, off now", x, 3, set(0, 1, 6), set(3));
        x.poll(1);
        ahead("behind a row that is over", x, 3, set(0, 1), 0);
    }

    /** The reason is found from so many ticks on, and the state too if it is not 6, and not before. */
    private static void soonest(String where, Burnerline x, int ticks, int reason) {
        for (int n = 1; n <= 3; n++) {
            boolean found = (x.reasonsAhead(n) >> reason & 1) == 1;
            due.is("reason " + reason + " in " + n + " " + where, found, n >= ticks);
        }
    }

    private static void soonestState(String where, Burnerline x, int ticks, int state) {
        for (int n = 1; n <= 3; n++) {
            due.is("state " + state + " in " + n + " " + where, x.couldBe(state, n), n >= ticks);
        }
    }

    /** Each time that is up in 1, 2, 3 and 4 ticks. */
    private static void timesThatAreUp() {
        for (int left = 1; left <= 4; left++) {
            String where = "with " + left + " left";
            Burnerline purge = Due.quickIn(1);
            purge.signal(Due.AIR, false);
            purge.poll(60 - left);
            soonest("of the purge " + where, purge, left, 7);
            Burnerline pilot = Due.quickIn(2);
            pilot.poll(10 - left);
            soonest("of the pilot " + where, pilot, left, 4);
            Burnerline main = Due.quickIn(3);
            main.poll(5 - left);
            soonest("of main " + where, main, left, 5);
            Burnerline check = Due.quickIn(4);
            check.poll(10 - left);
            soonest("of a run " + where, check, left, 8);
            Burnerline after = Due.quickIn(5);
            after.poll(15 - left);
            soonest("of the after-purge " + where, after, left, 3);
            soonestState("of the after-purge " + where, after, left, 0);
            soonestState("of the after-purge " + where, after, left, 6);
            soonestState("of the after-purge " + where, after, left + 1, 1);
        }
    }

    /** Eyes that need 1 to 5 ticks, with no row and with one. */
    private static void eyesThatNeedTicks() {
        for (int need = 1; need <= 5; need++) {
            for (int row = 0; row < need; row++) {
                String where = "with a row of " + row + " of " + need;
                int left = need - row;
                Burnerline off = new Burnerline();
                off.setEyes(need, 1, 5);
                off.signal(Due.MAIN_EYE, true);
                Due.pass(off, row);
                soonest("of off " + where, off, left, 3);
                Burnerline run = Due.quick();
                run.setEyes(1, need, 100);
                Due.lead(run, 4);
                run.signal(Due.MAIN_EYE, false);
                Due.pass(run, row);
                soonest("of a run " + where, run, left, 6);
                Burnerline pilot = new Burnerline();
                pilot.setEyes(need, 1, 5);
                pilot.setFurnace(1, 50, 50);
                Due.lead(pilot, 2);
                pilot.signal(Due.PILOT_EYE, true);
                Due.pass(pilot, row);
                soonestState("of a pilot " + where, pilot, left, 3);
                soonestState("of a pilot " + where, pilot, Math.max(left + 1, need), 4);
            }
        }
    }

    /** From one state to the next: a tick for each, and more where the purge takes more. */
    private static void statesInARow() {
        int[][] soonest = {
            {1, 1, 3, 4, 5, 4, 1}, {1, 1, 2, 3, 4, 3, 1}, {9, 9, 1, 1, 2, 1, 1}, {9, 9, 9, 1, 1, 1, 1},
            {9, 9, 9, 9, 1, 1, 1}, {9, 9, 9, 9, 9, 1, 9}, {9, 9, 9, 9, 9, 9, 1}};
        for (int from = 0; from <= 6; from++) {
            for (int to = 0; to <= 6; to++) {
                soonestState("from " + from, Due.quickIn(from), soonest[from][to], to);
            }
        }
        Burnerline late = Due.quickIn(1);
        late.poll(1);
        soonestState("from a purge that is nearly done", late, 1, 2);
        soonestState("from a purge that is nearly done", late, 2, 3);
        soonestState("from a purge that is nearly done", late, 3, 4);
    }

    /** What the signals are now does not matter, as they could all be otherwise at the next tick. */
    private static void whateverTheSignals() {
        for (int state = 0; state <= 6; state++) {
            for (int told = 0; told < 64; told++) {
                Burnerline x = Due.quickIn(state);
                Burnerline y = Due.quickIn(state);
                for (int signal = 0; signal < 6; signal++) {
                    x.signal(signal, (told >> signal & 1) == 1);
                }
                String where = "from " + state + " with signals " + told;
                due.is("reasons " + where, x.reasonsAhead(2), y.reasonsAhead(2));
                for (int could = 0; could <= 6; could++) {
                    due.is("couldBe " + could + " " + where, x.couldBe(could, 2), y.couldBe(could, 2));
                }
            }
        }
    }

    private static void wrongInputs() {
        for (int state : new int[] {-1, 7, 32, Integer.MIN_VALUE, Integer.MAX_VALUE}) {
            Burnerline x = Due.quickIn(1);
            due.refused("couldBe(" + state + ", 1)", IllegalArgumentException.class, x, () -> x.couldBe(state, 1));
            due.refused("couldBe(" + state + ", 3)", IllegalArgumentException.class, x, () -> x.couldBe(state, 3));
            due.refused("couldBe(" + state + ", 0)", IllegalArgumentException.class, x, () -> x.couldBe(state, 0));
        }
        for (int s = 0; s <= 6; s++) {
            for (int ticks : new int[] {0, 4, -1, Integer.MIN_VALUE, Integer.MAX_VALUE}) {
                Burnerline x = Due.quickIn(s);
                due.refused("couldBe(1, " + ticks + ")", IllegalArgumentException.class, x, () -> x.couldBe(1, ticks));
                due.refused("reasonsAhead(" + ticks + ")", IllegalArgumentException.class, x,
                        () -> x.reasonsAhead(ticks));
            }
        }
    }
}
