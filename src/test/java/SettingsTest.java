/**
 * Promises 1 to 6: a new object, signals, and what settings do. RangesTest tells which are taken and
 * which refused, EyesTest how the eyes keep to theirs, PositionsTest how the air and the fuel do.
 */
public final class SettingsTest {
    private static final int NEVER = -1;

    private static final Due due = new Due();

    public static void main(String[] args) {
        newObject();
        signal();
        rate();
        rateAtItsEnds();
        times();
        ticksBetweenChecks();
        furnace();
        firstSteps();
        firstVolume();
        firstVolumeToTheLast();
        firstCheck();
        due.end();
    }

    private static void newObject() {
        Burnerline x = new Burnerline();
        due.is("new ticks", x.ticks(), 0);
        due.is("new state", x.state(), 0);
        due.is("new reason", x.reason(), 0);
        due.is("new time", x.time(), 0);
        due.is("new pilot valve", x.isOpen(false), false);
        due.is("new main valve", x.isOpen(true), false);
        due.is("new pilot eye", x.sees(false), false);
        due.is("new main eye", x.sees(true), false);
        due.is("new air", x.air(), 0);
        due.is("new fuel", x.fuel(), 0);
        due.is("new purged", x.purged(), 0);
        due.is("new unlit", x.unlit(), 0);
        due.is("new longestUnlit", x.longestUnlit(), 0);
        due.is("new changes", x.changes(), 0);
        due.is("new records", x.records(), 0);
        for (int i = 0; i < 6; i++) {
            due.is("new signal " + i, x.signal(i, false), false);
        }
        due.is("new rate", x.setRate(100), 50);
        due.is("another object has a rate of its own", new Burnerline().setRate(20), 50);
    }

    private static void signal() {
        for (int i = 0; i < 6; i++) {
            Burnerline x = new Burnerline();
            int n = i;
            due.is("signal " + n + " on", x.signal(n, true), false);
            due.is("signal " + n + " on again", x.signal(n, true), true);
            for (int other = 0; other < 6; other++) {
                due.is("signal " + other + " beside " + n, x.signal(other, other == n), other == n);
            }
            due.is("signal " + n + " off", x.signal(n, false), true);
            due.is("signal " + n + " off again", x.signal(n, false), false);
        }
        for (int wrong : new int[] {-1, 6, 32, 33, Integer.MIN_VALUE, Integer.MAX_VALUE}) {
            Burnerline x = new Burnerline();
            due.refused("signal(" + wrong + ")", IndexOutOfBoundsException.class, x, () -> x.signal(wrong, true));
            for (int i = 0; i < 6; i++) {
                due.is("signal " + i + " behind a wrong one", x.signal(i, false), false);
            }
        }
    }

    private static void rate() {
        Burnerline x = new Burnerline();
        due.is("setRate(20), the least", x.setRate(20), 50);
        due.is("setRate(100), the greatest", x.setRate(100), 20);
        due.is("setRate(73)", x.setRate(73), 100);
        for (int wrong : new int[] {19, 101, 0, -1, Integer.MIN_VALUE, Integer.MAX_VALUE}) {
            Burnerline y = new Burnerline();
            due.refused("setRate(" + wrong + ")", IllegalArgumentException.class, y, () -> y.setRate(wrong));
            due.is("setRate behind a wrong one", y.setRate(73), 50);
        }
        for (int state = 0; state <= 6; state++) {
            Burnerline y = Due.quickIn(state);
            due.is("setRate in state " + state, y.setRate(60), 50);
            due.is("setRate again in state " + state, y.setRate(61), 60);
        }
    }

    /** A run keeps its air and its fuel at the least rate, and at the greatest. */
    private static void rateAtItsEnds() {
        for (int rate : new int[] {20, 100}) {
            Burnerline x = Due.quickIn(4);
            x.setRate(rate);
            x.poll(20);
            due.is("air at the rate " + rate, x.air(), rate);
            due.is("fuel at the rate " + rate, x.fuel(), rate);
        }
    }

    private static void times() {
        longestPurge(60, new Burnerline());
        Burnerline x = new Burnerline();
        x.setTimes(200, 30, 30, 60);
        longestPurge(200, x);
        Burnerline y = new Burnerline();
        y.setTimes(1, 1, 1, 1);
        longestPurge(1, y);
        for (int pilot : new int[] {1, 10, 30}) {
            longestPilot(pilot);
        }
        for (int main : new int[] {1, 5, 30}) {
            longestMain(main);
        }
        for (int after : new int[] {1, 15, 60}) {
            afterPurge(after);
        }
    }

    /** No air flows, so that the purge never ends. */
    private static void longestPurge(int purge, Burnerline x) {
        x.signal(Due.HEAT, true);
        x.poll(1);
        Due.pass(x, purge - 1);
        due.is("state before the longest purge of " + purge, x.state(), 1);
        x.poll(1);
        due.is("state at the longest purge of " + purge, x.state(), 6);
        due.is("reason at the longest purge of " + purge, x.reason(), 7);
    }

    private static void longestPilot(int pilot) {
        Burnerline x = Due.quick();
        if (pilot != 10) {
            x.setTimes(60, pilot, 5, 15);
        }
        Due.lead(x, 2);
        Due.pass(x, pilot - 1);
        due.is("state before the longest pilot of " + pilot, x.state(), 2);
        x.poll(1);
        due.is("reason at the longest pilot of " + pilot, x.reason(), 4);
    }

    private static void longestMain(int main) {
        Burnerline x = Due.quick();
        if (main != 5) {
            x.setTimes(60, 10, main, 15);
        }
        Due.lead(x, 3);
        Due.pass(x, main - 1);
        due.is("state before the longest main of " + main, x.state(), 3);
        x.poll(1);
        due.is("reason at the longest main of " + main, x.reason(), 5);
    }

    private static void afterPurge(int after) {
        Burnerline x = Due.quick();
        if (after != 15) {
            x.setTimes(60, 10, 5, after);
        }
        Due.lead(x, 5);
        Due.set(x, false, Due.PILOT_EYE, Due.MAIN_EYE);
        Due.pass(x, after - 1);
        due.is("state before the after-purge of " + after, x.state(), 5);
        x.poll(1);
        due.is("state at the after-purge of " + after, x.state(), 0);
    }

    private static void ticksBetweenChecks() {
        for (int check : new int[] {5, 30, 100}) {
            checks(check);
        }
    }

    private static void checks(int check) {
        Burnerline x = Due.quick();
        x.setEyes(1, 1, check);
        Due.lead(x, 4);
        x.signal(Due.CHECK, false);
        x.poll(check - 1);
        due.is("state before the check of " + check, x.state(), 4);
        x.signal(Due.CHECK, true);
        x.poll(1);
        due.is("state behind the check of " + check, x.state(), 4);
        x.signal(Due.CHECK, false);
        x.poll(check - 1);
        due.is("state before the second check of " + check, x.state(), 4);
        x.poll(1);
        due.is("reason at the second check of " + check, x.reason(), 8);
        due.is("tick of the second check of " + check, x.tickOf(0), 5 + 2 * check);
    }

    /** How soon a cold furnace could open the pilot valve tells of its volume and its air's step. */
    private static void furnace() {
        Burnerline x = new Burnerline();
        toPilotIs(x, 13);
        x.setFurnace(1, 1, 1);
        toPilotIs(x, NEVER);
        x.setTimes(200, 10, 5, 15);
        toPilotIs(x, 71);
        x.setFurnace(500, 50, 1);
        toPilotIs(x, 22);
        x.setFurnace(25, 50, 50);
        toPilotIs(x, 3);
        x.setFurnace(26, 50, 50);
        toPilotIs(x, 4);
        x.setFurnace(500, 1, 50);
        toPilotIs(x, 95);
    }

    private static void toPilotIs(Burnerline x, int ticks) {
        due.is("toPilot of a cold furnace", x.toPilot(), ticks);
    }

    /** Leads a furnace that nobody has set to the run, with an eye that takes two ticks to see. */
    private static Burnerline firstRun() {
        Burnerline x = new Burnerline();
        Due.set(x, true, Due.HEAT, Due.AIR, Due.PRESSURE, Due.CHECK);
        x.poll(13);
        x.signal(Due.PILOT_EYE, true);
        x.poll(2);
        x.signal(Due.MAIN_EYE, true);
        x.poll(2);
        due.is("state of a furnace that nobody has set", x.state(), 4);
        return x;
    }

    private static void firstSteps() {
        Burnerline x = new Burnerline();
        x.signal(Due.HEAT, true);
        x.poll(2);
        due.is("the first step of the air", x.air(), 20);
        x.poll(1);
        due.is("the second step of the air", x.air(), 40);
        Burnerline run = firstRun();
        run.setRate(100);
        due.is("air as the run begins", run.air(), 30);
        run.poll(1);
        due.is("air in the run", run.air(), 50);
        due.is("fuel in the run", run.fuel(), 30);
        run.poll(1);
        due.is("fuel in the run a tick later", run.fuel(), 40);
    }

    /**
     * The purge is led to 98 + 100 + .. + 100, which is 798 behind eight ticks: two short of four
     * volumes of 200. The rate of 98 and the off state in between bring the air to that.
     */
    private static void firstVolume() {
        Burnerline x = new Burnerline();
        x.setTimes(60, 10, 5, 1);
        x.setEyes(1, 1, 100);
        x.setRate(98);
        Due.lead(x, 1);
        x.poll(12);
        Due.set(x, true, Due.PILOT_EYE, Due.MAIN_EYE);
        x.poll(12);
        due.is("air of a run at 98", x.air(), 98);
        Due.set(x, false, Due.HEAT, Due.PILOT_EYE);
        x.poll(1);
        due.is("state behind the run", x.state(), 5);
        Due.set(x, true, Due.HEAT);
        Due.set(x, false, Due.MAIN_EYE);
        x.poll(3);
        due.is("purged behind the run", x.purged(), 78);
        x.signal(Due.HEAT, false);
        x.poll(1);
        x.signal(Due.HEAT, true);
        x.poll(1);
        due.is("air as the purge begins", x.air(), 78);
        x.poll(8);
        due.is("state just below four volumes", x.state(), 1);
        due.is("purged just below four volumes", x.purged(), 798);
        x.poll(1);
        due.is("state above four volumes", x.state(), 2);
    }

    /** Heat that is gone for a tick lets the purge begin anew at 100: 800 behind eight ticks. */
    private static void firstVolumeToTheLast() {
        Burnerline x = new Burnerline();
        Due.lead(x, 1);
        x.poll(6);
        due.is("air of a purge", x.air(), 100);
        x.signal(Due.HEAT, false);
        x.poll(1);
        x.signal(Due.HEAT, true);
        x.poll(1);
        x.poll(7);
        due.is("state below four volumes", x.state(), 1);
        due.is("purged below four volumes", x.purged(), 700);
        x.poll(1);
        due.is("state just at four volumes", x.state(), 2);
    }

    private static void firstCheck() {
        Burnerline x = firstRun();
        x.signal(Due.CHECK, false);
        x.poll(29);
        due.is("state before the first check", x.state(), 4);
        x.poll(1);
        due.is("reason at the first check", x.reason(), 8);
    }
}
