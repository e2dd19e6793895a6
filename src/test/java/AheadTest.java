/** Promises 25 to 27: what could happen. */
public final class AheadTest {
    private static final Due due = new Due();

    public static void main(String[] args) {
        fromOff();
        fromPurge();
        fromPilot();
        fromMain();
        fromRun();
        fromAfterPurge();
        fromLockout();
        slowEyes();
        wrongInputs();
        toPilot();
        askingChangesNothing();
        due.end();
    }

    /** The states that could be, bit s for state s, and the reasons. */
    private static void ahead(String where, Burnerline x, int ticks, int states, int reasons) {
        int found = 0;
        for (int state = 0; state <= 6; state++) {
            found |= x.couldBe(state, ticks) ? 1 << state : 0;
        }
        due.is("states " + where + " in " + ticks, found, states);
        due.is("reasons " + where + " in " + ticks, x.reasonsAhead(ticks), reasons);
    }

    private static int set(int... members) {
        int bits = 0;
        for (int member : members) {
            bits |= 1 << member;
        }
        return bits;
    }

    private static void fromOff() {
        Burnerline x = new Burnerline();
        ahead("from new", x, 1, set(0, 1), 0);
        ahead("from new", x, 2, set(0, 1, 6), set(3));
        ahead("from new", x, 3, set(0, 1, 6), set(3));
        Burnerline quick = Due.quick();
        ahead("from off", quick, 1, set(0, 1, 6), set(3));
        ahead("from off", quick, 2, set(0, 1, 6), set(3));
        ahead("from off", quick, 3, set(0, 1, 2, 6), set(3));
        quick.setTimes(1, 1, 1, 1);
        ahead("from off with a short purge", quick, 1, set(0, 1, 6), set(3));
        ahead("from off with a short purge", quick, 2, set(0, 1, 6), set(3, 7));
    }

    private static void fromPurge() {
        Burnerline x = Due.quickIn(1);
        ahead("from purge", x, 1, set(0, 1, 6), set(3));
        ahead("from purge", x, 2, set(0, 1, 2, 6), set(3));
        ahead("from purge", x, 3, set(0, 1, 2, 3, 5, 6), set(1, 2, 3));
        Burnerline late = new Burnerline();
        late.setTimes(5, 10, 5, 15);
        Due.lead(late, 1);
        late.poll(3);
        ahead("from purge near its end", late, 1, set(0, 1), 0);
        ahead("from purge near its end", late, 2, set(0, 1, 6), set(3, 7));
    }

    private static void fromPilot() {
        Burnerline x = Due.quickIn(2);
        ahead("from pilot", x, 1, set(2, 3, 5, 6), set(1, 2));
        ahead("from pilot", x, 2, set(2, 3, 4, 5, 6), set(1, 2));
        ahead("from pilot", x, 3, set(2, 3, 4, 5, 6), set(1, 2, 6));
        x.poll(7);
        ahead("from an old pilot", x, 2, set(2, 3, 4, 5, 6), set(1, 2));
        ahead("from an old pilot", x, 3, set(2, 3, 4, 5, 6), set(1, 2, 4, 6));
    }

    private static void fromMain() {
        Burnerline x = Due.quickIn(3);
        ahead("from main", x, 1, set(3, 4, 5, 6), set(1, 2));
        ahead("from main", x, 2, set(3, 4, 5, 6), set(1, 2, 6));
        x.poll(4);
        ahead("from an old main", x, 1, set(4, 5, 6), set(1, 2, 5));
        ahead("from an old main", x, 3, set(4, 5, 6), set(1, 2, 5, 6));
    }

    private static void fromRun() {
        Burnerline x = Due.quickIn(4);
        ahead("from run", x, 1, set(4, 5, 6), set(1, 2, 6));
        x.poll(2);
        ahead("from run before the check", x, 2, set(4, 5, 6), set(1, 2, 6));
        ahead("from run before the check", x, 3, set(4, 5, 6), set(1, 2, 6, 8));
        x.poll(2);
        ahead("from run at the check", x, 1, set(4, 5, 6), set(1, 2, 6, 8));
    }

    private static void fromAfterPurge() {
        Burnerline x = Due.quickIn(5);
        ahead("from after-purge", x, 3, set(5), 0);
        x.poll(12);
        ahead("from after-purge near its end", x, 2, set(5), 0);
        ahead("from after-purge near its end", x, 3, set(0, 5, 6), set(3));
        x.poll(2);
        ahead("from after-purge at its end", x, 1, set(0, 6), set(3));
        ahead("from after-purge at its end", x, 2, set(0, 1, 6), set(3));
    }

    private static void fromLockout() {
        Burnerline x = Due.quickIn(6);
        for (int ticks = 1; ticks <= 3; ticks++) {
            ahead("from lockout", x, ticks, set(6), 0);
        }
        x.poll(20);
        ahead("from an old lockout", x, 3, set(6), 0);
    }

    /** The rows of the eyes go on in the walk, and the walk does not need the signals of now. */
    private static void slowEyes() {
        Burnerline x = new Burnerline();
        x.setEyes(4, 5, 5);
        x.signal(Due.PILOT_EYE, true);
        ahead("before any light", x, 3, set(0, 1), 0);
        x.poll(1);
        ahead("behind a tick of light", x, 2, set(0, 1), 0);
        ahead("behind a tick of light", x, 3, set(0, 1, 6), set(3));
        x.signal(Due.PILOT_EYE, false);
        ahead("behind a tick of light, off now", x, 3, set(0, 1, 6), set(3));
        x.poll(1);
        ahead("behind a row that is over", x, 3, set(0, 1), 0);
    }

    private static void wrongInputs() {
        for (int state : new int[] {-1, 7, 32, Integer.MIN_VALUE, Integer.MAX_VALUE}) {
            Burnerline x = Due.quickIn(1);
            due.refused("couldBe(" + state + ", 1)", IllegalArgumentException.class, x, () -> x.couldBe(state, 1));
            due.refused("couldBe(" + state + ", 0)", IllegalArgumentException.class, x, () -> x.couldBe(state, 0));
        }
        for (int s : new int[] {0, 6}) {
            for (int ticks : new int[] {0, 4, -1, Integer.MIN_VALUE, Integer.MAX_VALUE}) {
                Burnerline x = Due.quickIn(s);
                due.refused("couldBe(1, " + ticks + ")", IllegalArgumentException.class, x, () -> x.couldBe(1, ticks));
                due.refused("reasonsAhead(" + ticks + ")", IllegalArgumentException.class, x,
                        () -> x.reasonsAhead(ticks));
            }
        }
    }

    private static void toPilot() {
        Burnerline x = new Burnerline();
        due.is("toPilot of a new one, whatever its signals", x.toPilot(), 13);
        int[] quick = {3, 2, 0, 0, -1, 18, -1};
        for (int state = 0; state <= 6; state++) {
            due.is("toPilot from " + state, Due.quickIn(state).toPilot(), quick[state]);
        }
        afterPurgeToPilot();
        farPilot();
        purgeToPilot();
    }

    private static void afterPurgeToPilot() {
        Burnerline x = new Burnerline();
        x.setEyes(1, 5, 5);
        x.setFurnace(1, 50, 50);
        Due.lead(x, 5);
        // 15 of the after-purge, 1 of off that lets the air down to 10, and 2 until it is at 70 or more.
        due.is("toPilot from the after-purge", x.toPilot(), 18);
        x.poll(10);
        due.is("toPilot when the flame is gone just in time", x.toPilot(), 8);
        x.poll(1);
        due.is("toPilot when the flame is seen too long", x.toPilot(), -1);
    }

    private static void farPilot() {
        Burnerline x = new Burnerline();
        x.setTimes(200, 1, 1, 60);
        x.setFurnace(500, 1, 1);
        // Off, 69 ticks too low, 70 + .. + 100 make 2635.
        due.is("toPilot of a slow furnace", x.toPilot(), 95);
        Due.lead(x, 1);
        due.is("toPilot of a slow furnace that purges", x.toPilot(), 94);
        x.setRate(20);
        Burnerline never = new Burnerline();
        never.setTimes(94, 1, 1, 60);
        never.setFurnace(500, 1, 1);
        due.is("toPilot in the last tick of the purge", never.toPilot(), 95);
        never.setTimes(93, 1, 1, 60);
        due.is("toPilot of too short a purge", never.toPilot(), -1);
    }

    private static void purgeToPilot() {
        Burnerline x = new Burnerline();
        Due.lead(x, 1);
        x.poll(6);
        due.is("toPilot in a purge", x.toPilot(), 6);
        x.signal(Due.AIR, false);
        due.is("toPilot, whatever flows now", x.toPilot(), 6);
        x.poll(1);
        due.is("toPilot when the purge begins anew", x.toPilot(), 8);
        x.signal(Due.MAIN_EYE, true);
        x.poll(1);
        due.is("toPilot with light that is not seen", x.toPilot(), 8);
        x.signal(Due.HEAT, false);
        x.poll(1);
        due.is("toPilot with a flame in off", x.toPilot(), -1);
    }

    private static void askingChangesNothing() {
        for (int state = 0; state <= 6; state++) {
            Burnerline asked = Due.quickIn(state);
            for (int ticks = 1; ticks <= 3; ticks++) {
                asked.couldBe(6, ticks);
                asked.reasonsAhead(ticks);
                asked.toPilot();
            }
            due.same("asking in " + state + " leaves", Due.asked(asked), Due.asked(Due.quickIn(state)));
            Burnerline left = Due.quickIn(state);
            asked.poll(30);
            left.poll(30);
            due.same("30 ticks behind asking in " + state, Due.asked(asked), Due.asked(left));
        }
    }
}
