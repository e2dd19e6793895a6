/** The first step of a tick, setEyes and promise 14: when an eye sees a flame, and when none. */
public final class EyesTest {
    private static final Due due = new Due();

    public static void main(String[] args) {
        firstEyes();
        allTicksToLightAndNone();
        lightInARow();
        noneInARow();
        aRowIsOverWhenTheEyeSees();
        theSameSignalIsNoRow();
        signalsBetweenTicks();
        eachEyeHasItsRow();
        rowsGoOn();
        lowerNeeds();
        higherNeeds();
        lowerNeedForNone();
        eitherEyeIsAFlame();
        due.end();
    }

    private static int signalOf(boolean main) {
        return main ? Due.MAIN_EYE : Due.PILOT_EYE;
    }

    /** The signal of an eye is told, and the eye tells something else only at the last tick of some. */
    private static void turns(String where, Burnerline x, boolean main, boolean on, int ticks) {
        x.signal(signalOf(main), on);
        stays(where, x, main, !on, ticks - 1);
        x.poll(1);
        due.is("eye " + main + " " + where + " at tick " + ticks + " of " + on, x.sees(main), on);
    }

    private static void stays(String where, Burnerline x, boolean main, boolean sees, int ticks) {
        for (int tick = 0; tick <= ticks; tick++) {
            due.is("eye " + main + " " + where + " behind tick " + tick, x.sees(main), sees);
            if (tick < ticks) {
                x.poll(1);
            }
        }
    }

    private static void firstEyes() {
        for (boolean main : new boolean[] {false, true}) {
            Burnerline x = new Burnerline();
            turns("at first", x, main, true, 2);
            turns("at first", x, main, false, 3);
            due.is("the other eye", x.sees(!main), false);
        }
    }

    private static void allTicksToLightAndNone() {
        for (int light = 1; light <= 5; light++) {
            for (int none = 1; none <= 5; none++) {
                for (boolean main : new boolean[] {false, true}) {
                    Burnerline x = new Burnerline();
                    x.setEyes(light, none, 5);
                    String where = "of " + light + " and " + none;
                    turns(where, x, main, true, light);
                    turns(where, x, main, false, none);
                    turns(where, x, main, true, light);
                }
            }
        }
    }

    /** A row that is one tick too short counts for nothing when it is broken. */
    private static void lightInARow() {
        for (boolean main : new boolean[] {false, true}) {
            for (int light = 2; light <= 5; light++) {
                Burnerline x = new Burnerline();
                x.setEyes(light, 1, 5);
                x.signal(signalOf(main), true);
                stays("with too short a row of light", x, main, false, light - 1);
                x.signal(signalOf(main), false);
                stays("with a broken row of light", x, main, false, 1);
                turns("behind a broken row of light", x, main, true, light);
            }
        }
    }

    private static void noneInARow() {
        for (boolean main : new boolean[] {false, true}) {
            for (int none = 2; none <= 5; none++) {
                Burnerline x = new Burnerline();
                x.setEyes(1, none, 5);
                turns("lit", x, main, true, 1);
                x.signal(signalOf(main), false);
                stays("with too short a dark row", x, main, true, none - 1);
                x.signal(signalOf(main), true);
                stays("with a broken dark row", x, main, true, 1);
                turns("behind a broken dark row", x, main, false, none);
            }
        }
    }

    /** Otherwise the ticks that it took to see would count for seeing none. */
    private static void aRowIsOverWhenTheEyeSees() {
        for (boolean main : new boolean[] {false, true}) {
            Burnerline x = new Burnerline();
            x.setEyes(4, 3, 5);
            turns("by four", x, main, true, 4);
            turns("by three behind four", x, main, false, 3);
            turns("by four behind three", x, main, true, 4);
        }
    }

    private static void theSameSignalIsNoRow() {
        Burnerline x = new Burnerline();
        x.setEyes(3, 3, 5);
        x.poll(50);
        turns("long dark", x, true, true, 3);
        x.poll(50);
        turns("long lit", x, true, false, 3);
    }

    /** Only what a signal is at a tick counts. */
    private static void signalsBetweenTicks() {
        Burnerline x = new Burnerline();
        x.signal(Due.PILOT_EYE, true);
        x.poll(1);
        x.signal(Due.PILOT_EYE, false);
        x.signal(Due.PILOT_EYE, true);
        due.is("an eye between ticks", x.sees(false), false);
        x.poll(1);
        due.is("an eye whose signal was off between ticks", x.sees(false), true);
        Burnerline y = new Burnerline();
        y.setEyes(1, 1, 5);
        y.signal(Due.PILOT_EYE, true);
        y.signal(Due.PILOT_EYE, false);
        y.poll(1);
        due.is("an eye whose signal was on between ticks", y.sees(false), false);
    }

    private static void eachEyeHasItsRow() {
        for (boolean first : new boolean[] {false, true}) {
            Burnerline x = new Burnerline();
            x.setEyes(3, 4, 5);
            x.signal(signalOf(first), true);
            x.poll(1);
            x.signal(signalOf(!first), true);
            x.poll(1);
            due.is("the first eye behind two", x.sees(first), false);
            x.poll(1);
            due.is("the first eye behind three", x.sees(first), true);
            due.is("the second eye behind two", x.sees(!first), false);
            x.poll(1);
            due.is("the second eye behind three", x.sees(!first), true);
            turns("beside an eye that is lit", x, first, false, 4);
            due.is("the second eye, still lit", x.sees(!first), true);
        }
    }

    /** A change of the state and a reset leave the rows alone. */
    private static void rowsGoOn() {
        Burnerline x = new Burnerline();
        x.setFurnace(1, 50, 50);
        Due.lead(x, 1);
        x.poll(1);
        x.signal(Due.PILOT_EYE, true);
        x.poll(1);
        due.state("of a pilot that is lit early", x, 2, 0, 0);
        due.is("the eye with a row from the purge", x.sees(false), false);
        x.poll(1);
        due.is("the eye one tick on", x.sees(false), true);
        due.state("of a pilot seen in its first tick", x, 3, 0, 0);
        Burnerline y = new Burnerline();
        y.setTimes(1, 1, 1, 1);
        y.signal(Due.HEAT, true);
        y.poll(6);
        y.signal(Due.PILOT_EYE, true);
        y.poll(1);
        y.reset();
        due.is("the eye with a row from a lockout", y.sees(false), false);
        y.poll(1);
        due.is("the eye a tick behind a reset", y.sees(false), true);
        due.state("with a flame behind a reset", y, 6, 3, 0);
    }

    /** A row of three of five; what it needs is set to just one more, just that, and less. */
    private static void lowerNeeds() {
        for (int need = 4; need >= 1; need--) {
            Burnerline x = rowOfThree();
            x.setEyes(need, 5, 30);
            due.is("the eye with a new need of " + need, x.sees(false), false);
            x.poll(1);
            due.is("the eye a tick behind a new need of " + need, x.sees(false), true);
            due.state("of a stray flame", x, 6, 3, 0);
        }
    }

    private static void higherNeeds() {
        Burnerline same = rowOfThree();
        same.setEyes(5, 5, 30);
        turns("in a row of three of five", same, false, true, 2);
        Burnerline x = new Burnerline();
        x.signal(Due.PILOT_EYE, true);
        x.poll(1);
        x.setEyes(5, 5, 30);
        turns("in a row of one, then of five", x, false, true, 4);
    }

    private static Burnerline rowOfThree() {
        Burnerline x = new Burnerline();
        x.setEyes(5, 5, 30);
        x.signal(Due.PILOT_EYE, true);
        x.poll(3);
        return x;
    }

    /** Off with a flame that is seen, as a purge leaves it when heat ends and the flame comes at once. */
    private static void lowerNeedForNone() {
        for (int none : new int[] {1, 2}) {
            Burnerline x = Due.quickIn(1);
            x.signal(Due.HEAT, false);
            x.signal(Due.PILOT_EYE, true);
            x.poll(1);
            due.state("off with a flame", x, 0, 0, 0);
            due.is("the eye in off", x.sees(false), true);
            x.setEyes(1, none, 5);
            x.signal(Due.PILOT_EYE, false);
            x.poll(1);
            due.is("the eye with a need of " + none, x.sees(false), none > 1);
            due.is("state with a need of " + none, x.state(), none > 1 ? 6 : 0);
        }
    }

    /** Of no eye, of each and of both, as a furnace that is off tells. */
    private static void eitherEyeIsAFlame() {
        for (int lit = 0; lit < 4; lit++) {
            Burnerline x = Due.quick();
            x.signal(Due.PILOT_EYE, (lit & 1) != 0);
            x.signal(Due.MAIN_EYE, (lit & 2) != 0);
            x.poll(1);
            due.is("the pilot's eye with " + lit, x.sees(false), (lit & 1) != 0);
            due.is("the main eye with " + lit, x.sees(true), (lit & 2) != 0);
            due.is("reason of off with " + lit, x.reason(), lit == 0 ? 0 : 3);
        }
    }
}
