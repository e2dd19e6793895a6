/** The tick and promises 10 to 19: what is asked of the state. */
public final class TickTest {
    private static final Due due = new Due();

    public static void main(String[] args) {
        rowsOfAnEye();
        rowsAndNewSettings();
        positionsOfTheAir();
        positionsInARun();
        fuelIsShutAtOnce();
        off();
        purge();
        purgedAir();
        pilot();
        mainFlame();
        run();
        checks();
        afterPurge();
        lockout();
        valves();
        unlitTime();
        due.end();
    }

    private static void state(String where, Burnerline x, int state, int reason, int time) {
        due.is("state " + where, x.state(), state);
        due.is("reason " + where, x.reason(), reason);
        due.is("time " + where, x.time(), time);
    }

    private static void rowsOfAnEye() {
        Burnerline x = new Burnerline();
        x.setEyes(3, 2, 30);
        x.signal(Due.MAIN_EYE, true);
        x.poll(2);
        x.signal(Due.MAIN_EYE, false);
        x.poll(1);
        x.signal(Due.MAIN_EYE, true);
        x.poll(2);
        due.is("the main eye behind a broken row", x.sees(true), false);
        x.poll(1);
        due.is("the main eye behind three in a row", x.sees(true), true);
        due.is("the pilot eye beside it", x.sees(false), false);
        x.signal(Due.MAIN_EYE, false);
        x.poll(1);
        x.signal(Due.MAIN_EYE, true);
        x.poll(1);
        x.signal(Due.MAIN_EYE, false);
        x.poll(1);
        due.is("the main eye behind a broken dark row", x.sees(true), true);
        x.poll(1);
        due.is("the main eye behind a dark row", x.sees(true), false);
    }

    private static void rowsAndNewSettings() {
        Burnerline x = new Burnerline();
        x.setEyes(5, 5, 30);
        x.signal(Due.PILOT_EYE, true);
        x.poll(3);
        x.setEyes(2, 5, 30);
        due.is("the pilot eye with a new setting", x.sees(false), false);
        x.poll(1);
        due.is("the pilot eye a tick behind a new setting", x.sees(false), true);
        state("of a stray flame", x, 6, 3, 0);
    }

    private static void positionsOfTheAir() {
        Burnerline x = new Burnerline();
        x.setFurnace(500, 30, 10);
        Due.set(x, true, Due.HEAT);
        x.poll(1);
        air("in the tick that leaves off", x, 0);
        x.poll(1);
        air("behind a tick of the purge", x, 30);
        x.poll(2);
        air("behind three ticks of the purge", x, 90);
        x.poll(1);
        air("that does not go past 100", x, 100);
        x.signal(Due.HEAT, false);
        x.poll(1);
        air("in the tick that leaves the purge", x, 100);
        x.poll(1);
        air("going down in off", x, 70);
        x.poll(2);
        air("going down on", x, 10);
        x.poll(1);
        air("that does not go below 0", x, 0);
        Burnerline pilot = Due.quickIn(2);
        air("as the pilot begins", pilot, 100);
        pilot.poll(1);
        air("going down in the pilot", pilot, 50);
        pilot.poll(1);
        air("for lighting", pilot, 30);
        Burnerline main = Due.quickIn(3);
        main.poll(1);
        air("for lighting in main", main, 30);
        Burnerline after = Due.quickIn(5);
        after.poll(3);
        air("of the after-purge", after, 60);
        Burnerline locked = Due.quickIn(6);
        locked.poll(4);
        air("of the lockout", locked, 60);
    }

    private static void air(String where, Burnerline x, int air) {
        due.is("air " + where, x.air(), air);
    }

    private static void positions(String where, Burnerline x, int air, int fuel) {
        due.is("air " + where, x.air(), air);
        due.is("fuel " + where, x.fuel(), fuel);
    }

    private static void positionsInARun() {
        Burnerline x = new Burnerline();
        x.setEyes(1, 1, 100);
        x.setFurnace(1, 20, 10);
        Due.lead(x, 1);
        x.poll(4);
        due.is("state of a slow furnace", x.state(), 2);
        positions("as the pilot begins", x, 80, 0);
        x.signal(Due.PILOT_EYE, true);
        x.poll(1);
        positions("as main begins", x, 60, 0);
        x.signal(Due.MAIN_EYE, true);
        x.poll(1);
        due.is("state of a slow furnace that fires", x.state(), 4);
        positions("as the run begins", x, 40, 10);
        x.poll(1);
        positions("in a run: air to the rate", x, 50, 20);
        x.setRate(100);
        x.poll(2);
        positions("in a run: both up", x, 90, 40);
        x.setRate(20);
        x.poll(1);
        positions("in a run: air no lower than the fuel was", x, 70, 30);
        x.poll(1);
        positions("in a run: down", x, 50, 20);
        x.poll(2);
        positions("in a run: at the rate", x, 20, 20);
        x.setRate(100);
        x.poll(1);
        positions("in a run: fuel waits for the air that was", x, 40, 20);
        x.poll(1);
        positions("in a run: fuel follows", x, 60, 30);
        x.poll(8);
        positions("in a run: all open", x, 100, 100);
        x.setRate(30);
        x.poll(1);
        positions("in a run: air goes to where the fuel was", x, 100, 90);
        x.poll(1);
        positions("in a run: air one step behind the fuel", x, 90, 80);
        x.poll(10);
        positions("in a run: at the lower rate", x, 30, 30);
    }

    private static void fuelIsShutAtOnce() {
        Burnerline x = Due.quickIn(4);
        x.poll(3);
        due.is("fuel in a run", x.fuel(), 50);
        x.signal(Due.HEAT, false);
        x.poll(1);
        due.is("state", x.state(), 5);
        due.is("fuel as the after-purge begins", x.fuel(), 0);
        Burnerline y = Due.quickIn(4);
        y.poll(3);
        y.signal(Due.MAIN_EYE, false);
        y.poll(1);
        state("of a lost flame", y, 6, 6, 0);
        due.is("fuel as the lockout begins", y.fuel(), 0);
        Burnerline main = Due.quickIn(3);
        main.poll(1);
        due.is("fuel in main", main.fuel(), 20);
        main.signal(Due.MAIN_EYE, true);
        main.poll(1);
        due.is("fuel stays as the run begins", main.fuel(), 20);
    }

    private static void off() {
        Burnerline x = Due.quick();
        Due.set(x, true, Due.AIR, Due.PRESSURE, Due.CHECK);
        x.poll(3);
        state("without heat", x, 0, 0, 3);
        x.signal(Due.HEAT, true);
        x.poll(1);
        state("with heat", x, 1, 0, 0);
        for (int eye : new int[] {Due.PILOT_EYE, Due.MAIN_EYE}) {
            Burnerline y = Due.quick();
            Due.set(y, true, Due.HEAT, eye);
            y.poll(1);
            state("with heat and a flame at " + eye, y, 6, 3, 0);
        }
    }

    private static void purge() {
        Burnerline x = Due.quickIn(1);
        Due.set(x, false, Due.HEAT);
        Due.set(x, true, Due.PILOT_EYE);
        x.poll(1);
        state("of a purge without heat, though there is a flame", x, 0, 0, 0);
        x.poll(1);
        state("of off with a flame", x, 6, 3, 0);
        for (int eye : new int[] {Due.PILOT_EYE, Due.MAIN_EYE}) {
            Burnerline y = Due.quickIn(1);
            y.poll(1);
            y.signal(eye, true);
            y.poll(1);
            state("of a purge with a flame, though it had purged enough", y, 6, 3, 0);
        }
        Burnerline z = new Burnerline();
        z.setFurnace(1, 50, 50);
        z.setTimes(2, 1, 1, 1);
        Due.lead(z, 2);
        state("of a purge that ends with its longest time", z, 2, 0, 0);
        Burnerline late = new Burnerline();
        late.setFurnace(1, 50, 50);
        late.setTimes(1, 1, 1, 1);
        Due.lead(late, 1);
        late.poll(1);
        state("of a purge that takes too long", late, 6, 7, 0);
    }

    private static void purgedAir() {
        Burnerline x = new Burnerline();
        x.setFurnace(500, 35, 10);
        Due.lead(x, 1);
        x.poll(1);
        due.is("purged at air 35", x.purged(), 0);
        x.poll(1);
        due.is("air that is just enough", x.air(), 70);
        due.is("purged at air 70", x.purged(), 70);
        x.poll(2);
        due.is("purged behind three", x.purged(), 270);
        x.signal(Due.AIR, false);
        x.poll(1);
        due.is("purged without air", x.purged(), 0);
        x.signal(Due.AIR, true);
        x.poll(2);
        due.is("purged anew", x.purged(), 200);
        x.signal(Due.HEAT, false);
        x.poll(1);
        due.is("purged in off", x.purged(), 0);
        Burnerline y = new Burnerline();
        y.setFurnace(500, 23, 10);
        Due.lead(y, 1);
        y.poll(3);
        due.is("purged at air 69", y.purged(), 0);
        due.is("air that is just not enough", y.air(), 69);
        y.poll(1);
        due.is("purged at air 92", y.purged(), 92);
        volumes(25, 2);
        volumes(26, 3);
        volumes(50, 3);
        volumes(51, 4);
    }

    /** The air is 50, 100, 100, ... : pilot when four volumes have gone through. */
    private static void volumes(int volume, int ticks) {
        Burnerline x = new Burnerline();
        x.setFurnace(volume, 50, 10);
        Due.lead(x, 1);
        x.poll(ticks - 1);
        state("before a volume of " + volume + " is purged", x, 1, 0, ticks - 1);
        due.is("purged of " + volume, x.purged(), 100 * (ticks - 2));
        x.poll(1);
        state("when a volume of " + volume + " is purged", x, 2, 0, 0);
        due.is("purged in the pilot", x.purged(), 0);
    }

    /** Each lighting state refuses, in this order: no air, no pressure, no heat. */
    private static void faultsInOrder(int from) {
        Burnerline air = Due.quickIn(from);
        Due.set(air, false, Due.AIR, Due.PRESSURE, Due.HEAT);
        air.poll(1);
        state("without air from " + from, air, 6, 1, 0);
        Burnerline pressure = Due.quickIn(from);
        Due.set(pressure, false, Due.PRESSURE, Due.HEAT);
        pressure.poll(1);
        state("without pressure from " + from, pressure, 6, 2, 0);
        Burnerline heat = Due.quickIn(from);
        Due.set(heat, false, Due.HEAT);
        heat.poll(1);
        state("without heat from " + from, heat, 5, 0, 0);
    }

    private static void pilot() {
        faultsInOrder(2);
        Burnerline x = Due.quickIn(2);
        x.signal(Due.MAIN_EYE, true);
        x.poll(1);
        state("of a pilot with light at the main eye alone", x, 2, 0, 1);
        x.poll(8);
        x.signal(Due.PILOT_EYE, true);
        x.poll(1);
        state("of a pilot lit in its last tick", x, 3, 0, 0);
        Burnerline y = Due.quickIn(2);
        Due.set(y, true, Due.PILOT_EYE);
        Due.set(y, false, Due.HEAT);
        y.poll(1);
        state("of a pilot that is lit as heat ends", y, 5, 0, 0);
        Burnerline z = Due.quickIn(2);
        z.signal(Due.CHECK, false);
        z.poll(10);
        state("of a pilot that is not lit", z, 6, 4, 0);
    }

    private static void mainFlame() {
        faultsInOrder(3);
        Burnerline x = Due.quickIn(3);
        x.poll(4);
        state("of a main that is not lit yet", x, 3, 0, 4);
        x.signal(Due.MAIN_EYE, true);
        x.poll(1);
        state("of a main lit in its last tick", x, 4, 0, 0);
        Burnerline y = Due.quickIn(3);
        y.poll(5);
        state("of a main that is not lit", y, 6, 5, 0);
        Burnerline z = Due.quickIn(3);
        z.signal(Due.PILOT_EYE, false);
        z.poll(1);
        state("of a main whose pilot goes out", z, 3, 0, 1);
        Burnerline early = Due.quickIn(2);
        Due.set(early, true, Due.PILOT_EYE, Due.MAIN_EYE);
        early.poll(2);
        state("of a main whose eye saw at once", early, 4, 0, 0);
    }

    private static void run() {
        faultsInOrder(4);
        Burnerline x = Due.quickIn(4);
        x.signal(Due.PILOT_EYE, false);
        x.poll(4);
        state("of a run without pilot", x, 4, 0, 4);
        Due.set(x, false, Due.MAIN_EYE, Due.CHECK, Due.HEAT);
        x.poll(1);
        state("of a flame lost when the check fails and heat ends", x, 6, 6, 0);
        Burnerline y = Due.quickIn(4);
        Due.set(y, false, Due.PRESSURE, Due.MAIN_EYE);
        y.poll(1);
        state("of a flame lost without pressure", y, 6, 2, 0);
        Burnerline z = Due.quickIn(4);
        z.poll(200);
        state("of a long run", z, 4, 0, 200);
    }

    private static void checks() {
        Burnerline x = Due.quickIn(4);
        x.signal(Due.CHECK, false);
        x.poll(4);
        state("between the checks", x, 4, 0, 4);
        x.signal(Due.HEAT, false);
        x.poll(1);
        state("of a check that fails as heat ends", x, 6, 8, 0);
        Burnerline y = Due.quickIn(4);
        y.poll(4);
        y.signal(Due.HEAT, false);
        y.poll(1);
        state("of a check that passes as heat ends", y, 5, 0, 0);
    }

    private static void afterPurge() {
        Burnerline x = Due.quickIn(5);
        Due.set(x, false, Due.AIR, Due.PRESSURE, Due.CHECK);
        Due.set(x, true, Due.HEAT);
        x.poll(14);
        state("of an after-purge with a flame", x, 5, 0, 14);
        x.poll(1);
        state("of an after-purge that ends with a flame", x, 6, 3, 0);
        for (int eye : new int[] {Due.PILOT_EYE, Due.MAIN_EYE}) {
            Burnerline y = Due.quickIn(5);
            Due.set(y, false, Due.PILOT_EYE, Due.MAIN_EYE);
            y.poll(14);
            y.signal(eye, true);
            y.poll(1);
            state("of an after-purge that ends as a flame is seen", y, 6, 3, 0);
        }
        Burnerline z = Due.quickIn(5);
        z.poll(14);
        Due.set(z, false, Due.PILOT_EYE, Due.MAIN_EYE);
        z.poll(1);
        state("of an after-purge that ends as the flame does", z, 0, 0, 0);
    }

    private static void lockout() {
        Burnerline x = Due.quickIn(6);
        due.is("reason of the lockout", x.reason(), 1);
        for (int i = 0; i < 6; i++) {
            x.signal(i, true);
            x.poll(1);
        }
        state("of a lockout with all signals on", x, 6, 1, 6);
        x.poll(200);
        state("of a long lockout", x, 6, 1, 206);
    }

    private static void valves() {
        boolean[] pilot = {false, false, true, true, false, false, false};
        boolean[] main = {false, false, false, true, true, false, false};
        for (int s = 0; s <= 6; s++) {
            Burnerline x = Due.quickIn(s);
            due.is("state led to", x.state(), s);
            due.is("pilot valve in " + s, x.isOpen(false), pilot[s]);
            due.is("main valve in " + s, x.isOpen(true), main[s]);
        }
    }

    private static void unlit(String where, Burnerline x, int unlit, int longest) {
        due.is("unlit " + where, x.unlit(), unlit);
        due.is("longestUnlit " + where, x.longestUnlit(), longest);
    }

    private static void unlitTime() {
        Burnerline x = Due.quickIn(2);
        unlit("as the pilot opens", x, 0, 0);
        x.poll(1);
        unlit("behind a tick of the pilot", x, 1, 1);
        x.poll(6);
        unlit("behind seven", x, 7, 7);
        x.signal(Due.PILOT_EYE, true);
        x.poll(1);
        unlit("when the pilot is lit", x, 0, 7);
        x.signal(Due.PILOT_EYE, false);
        x.poll(2);
        unlit("in main without a flame", x, 2, 7);
        x.signal(Due.MAIN_EYE, true);
        x.poll(3);
        unlit("in a run", x, 0, 7);
        x.signal(Due.MAIN_EYE, false);
        x.poll(1);
        unlit("in the tick that lost the flame", x, 1, 7);
        x.poll(1);
        unlit("in a lockout", x, 0, 7);
        Burnerline y = Due.quickIn(2);
        y.poll(10);
        unlit("in the tick that locks out", y, 10, 10);
        Burnerline z = Due.quickIn(2);
        z.signal(Due.MAIN_EYE, true);
        z.poll(1);
        unlit("of a pilot with a flame at the other eye", z, 0, 0);
    }
}
