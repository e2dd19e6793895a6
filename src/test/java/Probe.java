import java.util.ArrayList;
import java.util.List;

/**
 * Brings to light all that a furnace is set to, which can't be asked: takes a furnace that is off and
 * sees no flame through the purge, the lighting, a run and the after-purge, and tells what it saw.
 */
final class Probe {
    private final Burnerline x;
    private final List<Integer> seen = new ArrayList<>();
    private int noted;

    private Probe(Burnerline x) {
        this.x = x;
        noted = x.changes();
    }

    static List<Integer> of(Burnerline x) {
        Probe probe = new Probe(x);
        probe.rate();
        probe.longestPurge();
        probe.longestPilot();
        probe.longestMain();
        probe.positionsAndCheck();
        probe.ticksToNone();
        probe.afterPurge();
        return probe.seen;
    }

    private void rate() {
        int rate = x.setRate(50);
        x.setRate(rate);
        seen.add(rate);
    }

    /** No air flows, so that the purge never ends. */
    private void longestPurge() {
        x.signal(Due.HEAT, true);
        Due.pass(x, 210);
        startAnew();
    }

    /** Tells by its ticks of the volume and of the air's step too. */
    private void longestPilot() {
        leadToPilot();
        x.poll(40);
        startAnew();
    }

    /** Tells of the ticks to light too. */
    private void longestMain() {
        leadToPilot();
        x.signal(Due.PILOT_EYE, true);
        x.poll(40);
        startAnew();
    }

    private void positionsAndCheck() {
        leadToPilot();
        Due.set(x, true, Due.EYES);
        for (int i = 0; i < 12; i++) {
            x.poll(1);
            seen.add(x.air());
            seen.add(x.fuel());
        }
        x.poll(100);
        startAnew();
    }

    private void ticksToNone() {
        leadToRun();
        x.signal(Due.MAIN_EYE, false);
        x.poll(6);
        startAnew();
    }

    private void afterPurge() {
        leadToRun();
        x.signal(Due.HEAT, false);
        Due.set(x, false, Due.EYES);
        x.poll(61);
        startAnew();
    }

    private void leadToPilot() {
        Due.set(x, true, Due.HEAT, Due.AIR, Due.PRESSURE);
        Due.pass(x, x.toPilot());
    }

    private void leadToRun() {
        leadToPilot();
        Due.set(x, true, Due.PILOT_EYE, Due.MAIN_EYE, Due.CHECK);
        x.poll(6);
    }

    private void startAnew() {
        note();
        Due.set(x, false, Due.HEAT, Due.AIR, Due.PRESSURE, Due.PILOT_EYE, Due.MAIN_EYE, Due.CHECK);
        x.poll(200);
        if (x.state() == 6) {
            x.reset();
        }
        note();
    }

    private void note() {
        int changes = x.changes();
        for (int back = changes - noted - 1; back >= 0; back--) {
            seen.add(x.tickOf(back));
            seen.add(x.stateOf(back));
            seen.add(x.reasonOf(back));
        }
        noted = changes;
    }
}
