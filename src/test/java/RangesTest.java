import java.util.Arrays;

/**
 * Promises 4 to 6: the range of each setting, which of two exceptions is thrown, and that a call that is
 * refused keeps nothing of what it was told.
 */
public final class RangesTest {
    private static final int TIMES = 0;
    private static final int EYES = 1;
    private static final int FURNACE = 2;
    private static final String[] NAMES = {"setTimes", "setEyes", "setFurnace"};
    private static final int[][] LEAST = {{1, 1, 1, 1}, {1, 1, 5}, {1, 1, 1}};
    private static final int[][] GREATEST = {{200, 30, 30, 60}, {5, 5, 100}, {500, 50, 50}};
    private static final int[][] FIRST = {{60, 10, 5, 15}, {2, 3, 30}, {200, 20, 10}};
    private static final int[][] OTHER = {{61, 11, 6, 16}, {4, 2, 31}, {150, 19, 11}};

    private static final Due due = new Due();

    public static void main(String[] args) {
        theProbeSeesAllSettings();
        firstSettings();
        ofOneObjectAlone();
        endsOfEachRange();
        outsideOfEachRange();
        severalOutOfRange();
        onlyWhenOff();
        offAgain();
        due.end();
    }

    private static void tell(int kind, Burnerline x, int... told) {
        if (kind == TIMES) {
            x.setTimes(told[0], told[1], told[2], told[3]);
        } else if (kind == EYES) {
            x.setEyes(told[0], told[1], told[2]);
        } else {
            x.setFurnace(told[0], told[1], told[2]);
        }
    }

    /** One setting at an end of its range, and the others as they are at first: it is taken. */
    private static void endsOfEachRange() {
        for (int kind = 0; kind < FIRST.length; kind++) {
            for (int i = 0; i < FIRST[kind].length; i++) {
                for (int end : new int[] {LEAST[kind][i], GREATEST[kind][i]}) {
                    Burnerline x = new Burnerline();
                    int[] told = FIRST[kind].clone();
                    told[i] = end;
                    tell(kind, x, told);
                    due.is(NAMES[kind] + " takes " + end + " at " + i,
                            Probe.of(x).equals(Probe.of(new Burnerline())), false);
                }
            }
        }
    }

    /** Just outside of each range, in each state: the exception that is named first, and nothing is kept. */
    private static void outsideOfEachRange() {
        for (int kind = 0; kind < FIRST.length; kind++) {
            for (int i = 0; i < FIRST[kind].length; i++) {
                int least = LEAST[kind][i];
                int greatest = GREATEST[kind][i];
                for (int wrong : new int[] {least - 1, greatest + 1, -1, Integer.MIN_VALUE, Integer.MAX_VALUE}) {
                    int[] told = OTHER[kind].clone();
                    told[i] = wrong;
                    for (int state = 0; state <= 6; state++) {
                        refused(kind, state, told, IllegalArgumentException.class);
                    }
                }
            }
        }
    }

    private static void severalOutOfRange() {
        refused(TIMES, 0, new int[] {0, 31, 0, 61}, IllegalArgumentException.class);
        refused(EYES, 0, new int[] {6, 0, 101}, IllegalArgumentException.class);
        refused(FURNACE, 0, new int[] {501, 0, 51}, IllegalArgumentException.class);
    }

    private static void onlyWhenOff() {
        for (int kind = 0; kind < FIRST.length; kind++) {
            for (int state = 1; state <= 6; state++) {
                refused(kind, state, OTHER[kind], IllegalStateException.class);
                refused(kind, state, FIRST[kind], IllegalStateException.class);
            }
        }
    }

    private static void refused(int kind, int state, int[] told, Class<?> exception) {
        Burnerline x = Due.quickIn(state);
        due.is("state led to", x.state(), state);
        String call = NAMES[kind] + " " + Arrays.toString(told) + " in " + state;
        due.refused(call, exception, x, () -> tell(kind, x, told));
        due.same(call + " keeps", Probe.of(home(x)), Probe.of(home(Due.quickIn(state))));
    }

    /** Leads a furnace from any state back to off, all its signals off and no flame seen. */
    private static Burnerline home(Burnerline x) {
        Due.set(x, false, Due.HEAT, Due.AIR, Due.PRESSURE, Due.PILOT_EYE, Due.MAIN_EYE, Due.CHECK);
        x.poll(100);
        if (x.state() == 6) {
            x.reset();
        }
        return x;
    }

    /** The tests above would miss a setting that the probe does not bring to light. */
    private static void theProbeSeesAllSettings() {
        due.same("a probe of two alike", Probe.of(new Burnerline()), Probe.of(new Burnerline()));
        for (int kind = 0; kind < FIRST.length; kind++) {
            for (int i = 0; i < FIRST[kind].length; i++) {
                // The air that is purged comes in lumps of up to 100, a quarter of that in volume.
                int near = kind == FURNACE && i == 0 ? 25 : 1;
                for (int other : new int[] {FIRST[kind][i] - near, FIRST[kind][i] + near, OTHER[kind][i]}) {
                    int[] told = FIRST[kind].clone();
                    told[i] = other;
                    Burnerline x = new Burnerline();
                    tell(kind, x, told);
                    due.is("a probe tells " + NAMES[kind] + " with " + other + " at " + i,
                            Probe.of(x).equals(Probe.of(new Burnerline())), false);
                }
            }
        }
        Burnerline rate = new Burnerline();
        rate.setRate(51);
        due.is("a probe tells the rate", Probe.of(rate).equals(Probe.of(new Burnerline())), false);
    }

    /** What it is told at first is what it is set to at first. */
    private static void firstSettings() {
        for (int kind = 0; kind < FIRST.length; kind++) {
            Burnerline x = new Burnerline();
            tell(kind, x, FIRST[kind]);
            due.same(NAMES[kind] + " as at first", Probe.of(x), Probe.of(new Burnerline()));
        }
    }

    private static void ofOneObjectAlone() {
        Burnerline x = new Burnerline();
        Burnerline y = new Burnerline();
        for (int kind = 0; kind < FIRST.length; kind++) {
            tell(kind, x, OTHER[kind]);
        }
        x.setRate(51);
        Due.set(x, true, Due.HEAT);
        x.poll(3);
        due.same("an object beside another", Probe.of(y), Probe.of(new Burnerline()));
    }

    /** By each way to off: heat that ends in a purge, the end of an after-purge, and a reset. */
    private static void offAgain() {
        Burnerline purge = Due.quickIn(1);
        purge.signal(Due.HEAT, false);
        purge.poll(1);
        settingsAreTaken("behind a purge", purge);
        Burnerline after = Due.quickIn(5);
        Due.set(after, false, Due.EYES);
        after.poll(15);
        settingsAreTaken("behind an after-purge", after);
        Burnerline reset = Due.quickIn(6);
        reset.poll(5);
        reset.reset();
        settingsAreTaken("behind a reset", reset);
        Burnerline old = Due.quick();
        Due.pass(old, 300);
        settingsAreTaken("of a furnace long off", old);
    }

    private static void settingsAreTaken(String where, Burnerline x) {
        due.is("state " + where, x.state(), 0);
        for (int kind = 0; kind < FIRST.length; kind++) {
            tell(kind, x, OTHER[kind]);
        }
        x.setTimes(1, 1, 1, 1);
        Due.set(x, true, Due.HEAT);
        x.poll(2);
        due.is("reason of a short purge " + where, x.reason(), 7);
    }
}
