/** The fourth step of a tick, and promises 13, 18 and 19: the valves, and how long they fed no flame. */
public final class UnlitTest {
    private static final Due due = new Due();

    public static void main(String[] args) {
        valves();
        valvesThroughAFiring();
        noValveWasOpen();
        pilotWithoutFlame();
        mainWithoutFlame();
        runWithoutFlame();
        flameAtEitherEye();
        theTickThatClosesTheValves();
        theLongestStays();
        due.end();
    }

    private static void valves() {
        boolean[] pilot = {false, false, true, true, false, false, false};
        boolean[] main = {false, false, false, true, true, false, false};
        for (int s = 0; s <= 6; s++) {
            Burnerline x = Due.quickIn(s);
            due.is("state led to", x.state(), s);
            due.is("pilot valve in " + s, x.isOpen(false), pilot[s]);
            due.is("main valve in " + s, x.isOpen(true), main[s]);
        }
    }

    private static void valvesAre(String where, Burnerline x, boolean pilot, boolean main) {
        due.is("pilot valve " + where, x.isOpen(false), pilot);
        due.is("main valve " + where, x.isOpen(true), main);
    }

    private static void valvesThroughAFiring() {
        Burnerline x = Due.quickIn(1);
        x.poll(1);
        valvesAre("a tick before the pilot", x, false, false);
        x.poll(1);
        valvesAre("as the pilot begins", x, true, false);
        x.signal(Due.PILOT_EYE, true);
        x.poll(1);
        valvesAre("as main begins", x, true, true);
        x.signal(Due.MAIN_EYE, true);
        x.poll(1);
        valvesAre("as the run begins", x, false, true);
        x.signal(Due.HEAT, false);
        x.poll(1);
        valvesAre("as the after-purge begins", x, false, false);
    }

    private static void unlit(String where, Burnerline x, int unlit, int longest) {
        due.is("unlit " + where, x.unlit(), unlit);
        due.is("longestUnlit " + where, x.longestUnlit(), longest);
    }

    private static void noValveWasOpen() {
        for (int state : new int[] {0, 1, 5}) {
            Burnerline x = Due.quickIn(state);
            Due.set(x, false, Due.EYES);
            x.poll(1);
            unlit("in a dark state " + state, x, 0, 0);
        }
        Burnerline locked = Due.quick();
        locked.signal(Due.PILOT_EYE, true);
        locked.poll(1);
        locked.signal(Due.PILOT_EYE, false);
        locked.poll(5);
        due.state("of a stray flame that is gone", locked, 6, 3, 5);
        unlit("in a dark lockout", locked, 0, 0);
    }

    /** The tick in which the valve opens does not count: it was not open at its beginning. */
    private static void pilotWithoutFlame() {
        Burnerline x = Due.quickIn(2);
        unlit("as the pilot opens", x, 0, 0);
        for (int tick = 1; tick <= 9; tick++) {
            x.poll(1);
            unlit("behind " + tick + " of the pilot", x, tick, tick);
        }
        x.signal(Due.PILOT_EYE, true);
        x.poll(1);
        unlit("when the pilot is lit", x, 0, 9);
    }

    private static void mainWithoutFlame() {
        Burnerline x = Due.quickIn(3);
        unlit("as main begins", x, 0, 0);
        x.poll(1);
        unlit("in main with a lit pilot", x, 0, 0);
        x.signal(Due.PILOT_EYE, false);
        x.poll(2);
        unlit("in main without a flame", x, 2, 2);
        x.signal(Due.MAIN_EYE, true);
        x.poll(1);
        due.is("state of a main that is lit", x.state(), 4);
        unlit("in the tick that lights main", x, 0, 2);
    }

    private static void runWithoutFlame() {
        Burnerline x = Due.quickIn(4);
        x.signal(Due.PILOT_EYE, false);
        x.poll(3);
        unlit("in a run", x, 0, 0);
        x.signal(Due.MAIN_EYE, false);
        x.poll(1);
        due.state("of a flame lost", x, 6, 6, 0);
        unlit("in the tick that lost the flame", x, 1, 1);
        x.poll(1);
        unlit("in a lockout", x, 0, 1);
        Burnerline pilot = Due.quickIn(4);
        pilot.signal(Due.MAIN_EYE, false);
        pilot.poll(1);
        due.state("of a main flame lost", pilot, 6, 6, 0);
        unlit("in the tick that lost the main flame alone", pilot, 0, 0);
    }

    private static void flameAtEitherEye() {
        Burnerline x = Due.quickIn(2);
        x.signal(Due.MAIN_EYE, true);
        x.poll(3);
        unlit("of a pilot with a flame at the other eye", x, 0, 0);
        x.signal(Due.MAIN_EYE, false);
        x.poll(2);
        unlit("of a pilot without it", x, 2, 2);
        x.signal(Due.MAIN_EYE, true);
        x.poll(1);
        unlit("of a pilot with it again", x, 0, 2);
        Burnerline slow = new Burnerline();
        slow.setFurnace(1, 50, 50);
        Due.lead(slow, 2);
        slow.signal(Due.PILOT_EYE, true);
        slow.poll(1);
        unlit("with light that the eye does not see yet", slow, 1, 1);
        slow.poll(1);
        unlit("with light that the eye sees", slow, 0, 1);
    }

    private static void theTickThatClosesTheValves() {
        Burnerline locked = Due.quickIn(2);
        locked.poll(10);
        due.state("of a pilot that is not lit", locked, 6, 4, 0);
        unlit("in the tick that locks out", locked, 10, 10);
        locked.poll(1);
        unlit("a tick behind it", locked, 0, 10);
        Burnerline ended = Due.quickIn(2);
        ended.poll(1);
        ended.signal(Due.HEAT, false);
        ended.poll(1);
        due.state("of a pilot that heat has left", ended, 5, 0, 0);
        unlit("in the tick that ends the pilot", ended, 2, 2);
        ended.poll(1);
        unlit("in the after-purge", ended, 0, 2);
    }

    /** One that is shorter, one just as long, and one longer. */
    private static void theLongestStays() {
        Burnerline x = Due.quick();
        x.setTimes(60, 30, 5, 15);
        Due.lead(x, 2);
        x.poll(3);
        litForATick(x);
        unlit("behind three", x, 0, 3);
        x.poll(2);
        unlit("behind two more", x, 2, 3);
        litForATick(x);
        x.poll(3);
        unlit("behind three more", x, 3, 3);
        x.signal(Due.HEAT, false);
        x.poll(1);
        unlit("behind four", x, 4, 4);
        x.poll(15);
        due.is("state behind the after-purge", x.state(), 0);
        unlit("in off", x, 0, 4);
        Burnerline y = Due.quickIn(2);
        y.poll(15);
        y.reset();
        unlit("behind a reset", y, 0, 10);
    }

    private static void litForATick(Burnerline x) {
        x.signal(Due.MAIN_EYE, true);
        x.poll(1);
        x.signal(Due.MAIN_EYE, false);
    }
}
