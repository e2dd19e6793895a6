/** The second step of a tick, setRate, the steps of setFurnace, and promises 15 and 16. */
public final class PositionsTest {
    private static final Due due = new Due();

    public static void main(String[] args) {
        airInOffAndPurge();
        airStepsUp();
        airStepsDown();
        airForLighting();
        airOfTheAfterPurge();
        airOfTheLockout();
        theStateAtTheBeginning();
        fuelInMain();
        airAndFuelInARun();
        airIsTheGreater();
        fuelIsTheLesser();
        stepsInARun();
        bothByTheBeginning();
        fuelIsShutAtOnce();
        noFuelWithoutMainValve();
        due.end();
    }

    private static void air(String where, Burnerline x, int... air) {
        for (int tick = 0; tick < air.length; tick++) {
            if (tick > 0) {
                x.poll(1);
            }
            due.is("air " + where + " behind " + tick, x.air(), air[tick]);
        }
    }

    private static void positions(String where, Burnerline x, int air, int fuel) {
        due.is("air " + where, x.air(), air);
        due.is("fuel " + where, x.fuel(), fuel);
    }

    private static void airInOffAndPurge() {
        Burnerline x = new Burnerline();
        x.setFurnace(500, 30, 10);
        air("of an off furnace", x, 0, 0, 0);
        x.signal(Due.HEAT, true);
        x.poll(1);
        air("in a purge", x, 0, 30, 60, 90, 100, 100);
        x.signal(Due.HEAT, false);
        x.poll(1);
        air("in off behind a purge", x, 100, 70, 40, 10, 0, 0);
    }

    /** The way that is left is more than a step, just a step, and less. */
    private static void airStepsUp() {
        airUp(1, 1, 2, 3);
        airUp(33, 33, 66, 99, 100, 100);
        airUp(34, 34, 68, 100, 100);
        airUp(49, 49, 98, 100, 100);
        airUp(50, 50, 100, 100);
    }

    private static void airUp(int step, int... air) {
        Burnerline x = new Burnerline();
        x.setFurnace(500, step, 10);
        x.signal(Due.HEAT, true);
        x.poll(2);
        air("going up by " + step, x, air);
    }

    private static void airStepsDown() {
        airDown(50, 100, 50, 0, 0);
        airDown(49, 100, 51, 2, 0, 0);
        airDown(34, 100, 66, 32, 0, 0);
        airDown(33, 100, 67, 34, 1, 0, 0);
    }

    private static void airDown(int step, int... air) {
        Burnerline x = new Burnerline();
        x.setFurnace(500, step, 10);
        x.signal(Due.HEAT, true);
        x.poll(10);
        x.signal(Due.HEAT, false);
        x.poll(1);
        air("going down by " + step, x, air);
    }

    private static Burnerline furnace(int airStep, int fuelStep) {
        Burnerline x = new Burnerline();
        x.setEyes(1, 1, 100);
        x.setFurnace(25, airStep, fuelStep);
        return x;
    }

    /** A furnace that reaches the pilot with an air of 100. */
    private static Burnerline pilotAt100(int airStep) {
        Burnerline x = furnace(airStep, 10);
        Due.lead(x, 1);
        Due.pass(x, x.toPilot());
        due.state("of a furnace led to the pilot", x, 2, 0, 0);
        return x;
    }

    private static void airForLighting() {
        air("in the pilot, by 50", pilotAt100(50), 100, 50, 30, 30);
        air("in the pilot, by 35", pilotAt100(35), 100, 65, 30, 30);
        air("in the pilot, by 34", pilotAt100(34), 100, 66, 32, 30, 30);
        air("in the pilot, by 36", pilotAt100(36), 100, 64, 30, 30);
        Burnerline x = pilotAt100(25);
        x.signal(Due.PILOT_EYE, true);
        x.poll(1);
        due.state("of a furnace led to main", x, 3, 0, 0);
        air("in main", x, 75, 50, 30, 30);
    }

    private static Burnerline runAt(int rate, int airStep, int fuelStep) {
        Burnerline x = furnace(airStep, fuelStep);
        x.setRate(rate);
        Due.lead(x, 1);
        Due.pass(x, x.toPilot());
        Due.set(x, true, Due.EYES);
        x.poll(120);
        due.is("state of a run", x.state(), 4);
        positions("of a long run at " + rate, x, rate, rate);
        return x;
    }

    private static Burnerline afterPurgeFrom(int rate) {
        Burnerline x = runAt(rate, 15, 10);
        x.signal(Due.HEAT, false);
        x.poll(1);
        due.state("of a furnace led to the after-purge", x, 5, 0, 0);
        return x;
    }

    private static void airOfTheAfterPurge() {
        air("of the after-purge from above", afterPurgeFrom(100), 100, 85, 70, 60, 60);
        air("of the after-purge from below", afterPurgeFrom(20), 20, 35, 50, 60, 60);
        air("of the after-purge, just there", afterPurgeFrom(60), 60, 60, 60);
        air("of the after-purge, near", afterPurgeFrom(61), 61, 60, 60);
        air("of the after-purge, near below", afterPurgeFrom(59), 59, 60, 60);
        air("of the after-purge, a step away", afterPurgeFrom(75), 75, 60, 60);
        air("of the after-purge, more than a step away", afterPurgeFrom(76), 76, 61, 60, 60);
    }

    private static Burnerline lockoutFrom(int rate) {
        Burnerline x = runAt(rate, 15, 10);
        x.signal(Due.AIR, false);
        x.poll(1);
        due.state("of a furnace led to the lockout", x, 6, 1, 0);
        return x;
    }

    private static void airOfTheLockout() {
        air("of the lockout from above", lockoutFrom(100), 100, 85, 70, 60, 60);
        air("of the lockout from below", lockoutFrom(20), 20, 35, 50, 60, 60);
        air("of the lockout, just there", lockoutFrom(60), 60, 60, 60);
    }

    /** The tick in which a state begins still goes by the goals of the one before. */
    private static void theStateAtTheBeginning() {
        Burnerline x = furnace(5, 3);
        Due.lead(x, 1);
        positions("in the tick from off to purge", x, 0, 0);
        Due.pass(x, 6);
        x.signal(Due.HEAT, false);
        x.poll(1);
        positions("in the tick from purge to off", x, 35, 0);
        x.signal(Due.HEAT, true);
        x.poll(1);
        positions("in the tick from off to purge again", x, 30, 0);
        Due.pass(x, x.toPilot());
        due.state("pilot", x, 2, 0, 0);
        positions("in the tick from purge to pilot", x, 75, 0);
        x.signal(Due.PILOT_EYE, true);
        x.poll(1);
        due.state("main", x, 3, 0, 0);
        positions("in the tick from pilot to main", x, 70, 0);
        x.signal(Due.MAIN_EYE, true);
        x.poll(1);
        due.state("run", x, 4, 0, 0);
        positions("in the tick from main to run", x, 65, 3);
        x.setRate(100);
        x.signal(Due.HEAT, false);
        x.poll(1);
        due.state("after-purge", x, 5, 0, 0);
        positions("in the tick from run to after-purge", x, 70, 0);
        Due.set(x, false, Due.EYES);
        x.poll(15);
        due.state("off behind the after-purge", x, 0, 0, 0);
        positions("in the tick from after-purge to off", x, 60, 0);
        x.poll(1);
        positions("in off behind the after-purge", x, 55, 0);
    }

    private static void fuelInMain() {
        fuelInMain(1, 1, 2, 3, 4, 5);
        fuelInMain(7, 7, 14, 20, 20);
        fuelInMain(10, 10, 20, 20);
        fuelInMain(19, 19, 20, 20);
        fuelInMain(20, 20, 20);
        fuelInMain(21, 20, 20);
        fuelInMain(50, 20, 20);
    }

    private static void fuelInMain(int step, int... fuel) {
        Burnerline x = Due.quick();
        x.setFurnace(1, 50, step);
        Due.lead(x, 3);
        due.is("fuel as main begins", x.fuel(), 0);
        for (int tick = 0; tick < fuel.length - 1; tick++) {
            x.poll(1);
            due.is("fuel by " + step + " behind " + (tick + 1), x.fuel(), fuel[tick]);
        }
        x.signal(Due.MAIN_EYE, true);
        x.poll(1);
        due.is("state behind main", x.state(), 4);
        due.is("fuel by " + step + " as the run begins", x.fuel(), fuel[fuel.length - 1]);
    }

    private static void airAndFuelInARun() {
        Burnerline x = new Burnerline();
        x.setEyes(1, 1, 100);
        x.setFurnace(1, 20, 10);
        Due.lead(x, 1);
        x.poll(4);
        due.is("state of a slow furnace", x.state(), 2);
        positions("as the pilot begins", x, 80, 0);
        x.signal(Due.PILOT_EYE, true);
        x.poll(1);
        positions("as main begins", x, 60, 0);
        x.signal(Due.MAIN_EYE, true);
        x.poll(1);
        due.is("state of a slow furnace that fires", x.state(), 4);
        positions("as the run begins", x, 40, 10);
        x.poll(1);
        positions("in a run: air to the rate", x, 50, 20);
        x.setRate(100);
        x.poll(2);
        positions("in a run: both up", x, 90, 40);
        x.setRate(20);
        x.poll(1);
        positions("in a run: air no lower than the fuel was", x, 70, 30);
        x.poll(1);
        positions("in a run: down", x, 50, 20);
        x.poll(2);
        positions("in a run: at the rate", x, 20, 20);
        x.setRate(100);
        x.poll(1);
        positions("in a run: fuel waits for the air that was", x, 40, 20);
        x.poll(1);
        positions("in a run: fuel follows", x, 60, 30);
        x.poll(8);
        positions("in a run: all open", x, 100, 100);
        x.setRate(30);
        x.poll(1);
        positions("in a run: air goes to where the fuel was", x, 100, 90);
        x.poll(1);
        positions("in a run: air one step behind the fuel", x, 90, 80);
        x.poll(10);
        positions("in a run: at the lower rate", x, 30, 30);
    }

    /** A run at 60, and a new rate: just the fuel, one more and one less. */
    private static void airIsTheGreater() {
        Burnerline same = runAt(60, 50, 5);
        same.setRate(60);
        same.poll(1);
        positions("at a rate that is the fuel", same, 60, 60);
        Burnerline more = runAt(60, 50, 5);
        more.setRate(61);
        more.poll(1);
        positions("at a rate just above the fuel", more, 61, 60);
        Burnerline less = runAt(60, 50, 5);
        less.setRate(59);
        less.poll(1);
        positions("at a rate just below the fuel", less, 60, 59);
        less.poll(1);
        positions("a tick later", less, 59, 59);
        Burnerline least = runAt(60, 50, 5);
        least.setRate(20);
        least.poll(1);
        positions("at a rate far below the fuel", least, 60, 55);
        least.poll(1);
        positions("at a rate far below the fuel, a tick later", least, 55, 50);
    }

    /** The air moves by less than the fuel, which waits for it. */
    private static void fuelIsTheLesser() {
        Burnerline x = runAt(60, 3, 50);
        x.setRate(67);
        x.poll(1);
        positions("with slow air", x, 63, 60);
        x.poll(1);
        positions("with slow air, 2", x, 66, 63);
        x.poll(1);
        positions("with slow air, 3", x, 67, 66);
        x.poll(1);
        positions("with slow air, 4", x, 67, 67);
        x.setRate(60);
        x.poll(1);
        positions("with quick fuel going down", x, 67, 60);
        x.poll(1);
        positions("with quick fuel that is down", x, 64, 60);
    }

    /** In a run too a way may be more than a step, just a step, and less. */
    private static void stepsInARun() {
        Burnerline x = runAt(20, 9, 4);
        x.setRate(38);
        x.poll(1);
        positions("going up", x, 29, 20);
        x.poll(1);
        positions("going up, the air there", x, 38, 24);
        x.poll(1);
        positions("going up, 3", x, 38, 28);
        x.poll(2);
        positions("going up, 5", x, 38, 36);
        x.poll(1);
        positions("going up, 6", x, 38, 38);
        x.setRate(29);
        x.poll(1);
        positions("going down", x, 38, 34);
        x.poll(1);
        positions("going down, 2", x, 34, 30);
        x.poll(1);
        positions("going down, 3", x, 30, 29);
        x.poll(1);
        positions("going down, 4", x, 29, 29);
    }

    /** Were the air moved first, the fuel would go by where the air is now, and the other way round. */
    private static void bothByTheBeginning() {
        Burnerline up = runAt(20, 50, 50);
        up.setRate(100);
        up.poll(1);
        positions("both up by 50", up, 70, 20);
        up.poll(1);
        positions("both up by 50, 2", up, 100, 70);
        up.poll(1);
        positions("both up by 50, 3", up, 100, 100);
        up.setRate(20);
        up.poll(1);
        positions("both down by 50", up, 100, 50);
        up.poll(1);
        positions("both down by 50, 2", up, 50, 20);
        up.poll(1);
        positions("both down by 50, 3", up, 20, 20);
    }

    private static void fuelIsShutAtOnce() {
        Burnerline x = runAt(100, 50, 1);
        x.signal(Due.HEAT, false);
        x.poll(1);
        due.is("state behind heat", x.state(), 5);
        due.is("fuel as the after-purge begins", x.fuel(), 0);
        Burnerline y = runAt(100, 50, 1);
        y.signal(Due.MAIN_EYE, false);
        y.poll(1);
        due.state("of a lost flame", y, 6, 6, 0);
        due.is("fuel as the lockout begins", y.fuel(), 0);
        Burnerline heat = Due.quickIn(3);
        heat.poll(1);
        due.is("fuel in main", heat.fuel(), 20);
        heat.signal(Due.HEAT, false);
        heat.poll(1);
        due.is("state behind main without heat", heat.state(), 5);
        due.is("fuel as the after-purge begins behind main", heat.fuel(), 0);
        Burnerline late = Due.quickIn(3);
        late.poll(5);
        due.state("of a main that is not lit", late, 6, 5, 0);
        due.is("fuel as the lockout begins behind main", late.fuel(), 0);
    }

    private static void noFuelWithoutMainValve() {
        for (int state : new int[] {0, 1, 2, 5, 6}) {
            Burnerline x = Due.quickIn(state);
            due.is("fuel in state " + state, x.fuel(), 0);
            x.poll(1);
            due.is("fuel a tick later from state " + state, x.fuel(), 0);
        }
    }
}
