/** The third step of a tick, and promises 10 to 12 and 17: the states, their times and their reasons. */
public final class SequenceTest {
    /** What holds, as bits, in the order in which the document names it. */
    private static final int NO_AIR = 1;
    private static final int NO_PRESSURE = 2;

    private static final Due due = new Due();

    public static void main(String[] args) {
        off();
        firstInOff();
        purge();
        firstInPurge();
        airForPurging();
        purgedJustAtFourVolumes();
        volumes();
        purgeBeginsAnew();
        longestPurge();
        pilot();
        longestPilot();
        mainFlame();
        longestMain();
        firstInLighting();
        run();
        firstInRun();
        checks();
        afterPurge();
        endOfTheAfterPurge();
        lockout();
        everyReason();
        aStateBegins();
        due.end();
    }

    private static boolean holds(int holding, int bit) {
        return (holding & bit) != 0;
    }

    /** One tick leads to what is due for the first thing that holds, or to nothing new. */
    private static void first(String where, Burnerline x, int holding, int[][] outcomes) {
        int state = x.state();
        int time = x.time();
        int changes = x.changes();
        String with = where + " with " + holding;
        for (int i = 0; i < outcomes.length; i++) {
            if (holds(holding, 1 << i)) {
                due.is("poll " + with, x.poll(1), 1);
                due.state(with, x, outcomes[i][0], outcomes[i][1], 0);
                due.is("changes " + with, x.changes(), changes + 1);
                due.is("tickOf " + with, x.tickOf(0), x.ticks());
                due.is("stateOf " + with, x.stateOf(0), outcomes[i][0]);
                due.is("reasonOf " + with, x.reasonOf(0), outcomes[i][1]);
                return;
            }
        }
        due.is("poll " + with, x.poll(1), 0);
        due.state(with, x, state, 0, time + 1);
        due.is("changes " + with, x.changes(), changes);
    }

    private static void off() {
        Burnerline x = Due.quick();
        Due.set(x, true, Due.AIR, Due.PRESSURE, Due.CHECK);
        x.poll(3);
        due.state("without heat", x, 0, 0, 3);
        x.signal(Due.HEAT, true);
        x.poll(1);
        due.state("with heat", x, 1, 0, 0);
        Burnerline heatAlone = Due.quick();
        heatAlone.signal(Due.HEAT, true);
        heatAlone.poll(1);
        due.state("with heat alone", heatAlone, 1, 0, 0);
        Burnerline old = Due.quick();
        Due.pass(old, 400);
        due.state("long off", old, 0, 0, 400);
    }

    private static void firstInOff() {
        for (int holding = 0; holding < 4; holding++) {
            for (int eye : Due.EYES) {
                Burnerline x = Due.quick();
                x.poll(1);
                x.signal(eye, holds(holding, 1));
                x.signal(Due.HEAT, holds(holding, 2));
                first("off", x, holding, new int[][] {{6, 3}, {1, 0}});
            }
        }
    }

    private static void purge() {
        Burnerline x = Due.quickIn(1);
        Due.set(x, false, Due.HEAT);
        Due.set(x, true, Due.PILOT_EYE);
        x.poll(1);
        due.state("of a purge without heat, though there is a flame", x, 0, 0, 0);
        x.poll(1);
        due.state("of off with a flame", x, 6, 3, 0);
        Burnerline unheeded = Due.quickIn(1);
        Due.set(unheeded, false, Due.PRESSURE, Due.CHECK);
        unheeded.poll(1);
        due.state("of a purge without pressure", unheeded, 1, 0, 1);
        unheeded.poll(1);
        due.state("of a pilot without pressure as yet", unheeded, 2, 0, 0);
    }

    private static void firstInPurge() {
        for (int holding = 0; holding < 16; holding++) {
            for (int eye : Due.EYES) {
                Burnerline x = Due.quick();
                x.setTimes(holds(holding, 8) ? 2 : 3, 10, 5, 15);
                Due.lead(x, 1);
                x.poll(1);
                x.signal(Due.HEAT, !holds(holding, 1));
                x.signal(eye, holds(holding, 2));
                x.signal(Due.AIR, holds(holding, 4));
                first("purge", x, holding, new int[][] {{0, 0}, {6, 3}, {2, 0}, {6, 7}});
            }
        }
    }

    private static Burnerline purging(int volume, int airStep) {
        Burnerline x = new Burnerline();
        x.setFurnace(volume, airStep, 10);
        Due.lead(x, 1);
        return x;
    }

    /** At 69, 70 and 71, with air that flows and without. */
    private static void airForPurging() {
        Burnerline below = purging(500, 23);
        below.poll(3);
        due.is("air just below", below.air(), 69);
        due.is("purged at 69", below.purged(), 0);
        below.poll(1);
        due.is("purged at 92", below.purged(), 92);
        Burnerline at = purging(500, 35);
        at.poll(1);
        due.is("purged at 35", at.purged(), 0);
        at.poll(1);
        due.is("air just there", at.air(), 70);
        due.is("purged at 70", at.purged(), 70);
        at.poll(2);
        due.is("purged at 70, 100 and 100", at.purged(), 270);
        Burnerline above = new Burnerline();
        above.setTimes(200, 10, 5, 15);
        above.setFurnace(500, 1, 10);
        Due.lead(above, 1);
        above.poll(71);
        due.is("air just above", above.air(), 71);
        due.is("purged at 70 and 71", above.purged(), 141);
        Burnerline still = purging(500, 35);
        still.signal(Due.AIR, false);
        still.poll(3);
        due.is("purged without air that flows", still.purged(), 0);
        still.signal(Due.AIR, true);
        still.poll(1);
        due.is("purged as air flows", still.purged(), 100);
    }

    /** 4 x 18 = 72 of 72, 75 of 4 x 19 = 76, and 81 of 4 x 20 = 80. */
    private static void purgedJustAtFourVolumes() {
        Burnerline at = purging(18, 24);
        at.poll(2);
        due.state("below 70", at, 1, 0, 2);
        at.poll(1);
        due.state("just at four volumes", at, 2, 0, 0);
        Burnerline below = purging(19, 25);
        below.poll(3);
        due.state("just below four volumes", below, 1, 0, 3);
        due.is("purged just below four volumes", below.purged(), 75);
        below.poll(1);
        due.state("above four volumes", below, 2, 0, 0);
        Burnerline above = purging(20, 27);
        above.poll(3);
        due.state("just above four volumes", above, 2, 0, 0);
    }

    private static void volumes() {
        volume(1, 2);
        volume(25, 2);
        volume(26, 3);
        volume(50, 3);
        volume(51, 4);
        volume(499, 21);
        volume(500, 21);
    }

    /** The air is 50, 100, 100, ... : pilot when four volumes have gone through. */
    private static void volume(int volume, int ticks) {
        Burnerline x = purging(volume, 50);
        x.poll(ticks - 1);
        due.state("before a volume of " + volume + " is purged", x, 1, 0, ticks - 1);
        due.is("purged of " + volume, x.purged(), 100 * (ticks - 2));
        x.poll(1);
        due.state("when a volume of " + volume + " is purged", x, 2, 0, 0);
        due.is("purged in the pilot", x.purged(), 0);
    }

    private static void purgeBeginsAnew() {
        Burnerline x = purging(500, 50);
        x.poll(6);
        due.is("purged", x.purged(), 500);
        x.signal(Due.AIR, false);
        x.poll(1);
        due.is("purged without air", x.purged(), 0);
        due.state("of a purge without air", x, 1, 0, 7);
        x.signal(Due.AIR, true);
        x.poll(2);
        due.is("purged anew", x.purged(), 200);
        x.signal(Due.HEAT, false);
        x.poll(1);
        due.state("of a purge that is given up", x, 0, 0, 0);
        due.is("purged in off", x.purged(), 0);
        x.signal(Due.HEAT, true);
        x.poll(1);
        due.is("purged as a purge begins", x.purged(), 0);
        x.poll(1);
        due.is("purged in a purge that begins with much air", x.purged(), 100);
    }

    private static void longestPurge() {
        Burnerline x = Due.quick();
        x.setTimes(4, 10, 5, 15);
        Due.lead(x, 1);
        x.signal(Due.AIR, false);
        x.poll(3);
        due.state("a tick before the longest purge", x, 1, 0, 3);
        x.poll(1);
        due.state("at the longest purge", x, 6, 7, 0);
        Burnerline last = Due.quick();
        last.setTimes(2, 10, 5, 15);
        Due.lead(last, 2);
        due.state("of a purge that has purged enough in its last tick", last, 2, 0, 0);
        Burnerline late = Due.quick();
        late.setTimes(1, 10, 5, 15);
        Due.lead(late, 1);
        late.poll(1);
        due.state("of a purge that would take a tick more", late, 6, 7, 0);
    }

    private static void pilot() {
        Burnerline x = Due.quickIn(2);
        x.signal(Due.MAIN_EYE, true);
        x.poll(1);
        due.state("of a pilot with light at the main eye alone", x, 2, 0, 1);
        Burnerline unheeded = Due.quickIn(2);
        unheeded.signal(Due.CHECK, false);
        unheeded.poll(5);
        due.state("of a pilot with a check that fails", unheeded, 2, 0, 5);
    }

    private static void longestPilot() {
        Burnerline x = Due.quickIn(2);
        x.poll(9);
        due.state("a tick before the longest pilot", x, 2, 0, 9);
        x.poll(1);
        due.state("at the longest pilot", x, 6, 4, 0);
        Burnerline last = Due.quickIn(2);
        last.poll(9);
        last.signal(Due.PILOT_EYE, true);
        last.poll(1);
        due.state("of a pilot lit in its last tick", last, 3, 0, 0);
    }

    private static void mainFlame() {
        Burnerline x = Due.quickIn(3);
        x.signal(Due.PILOT_EYE, false);
        x.poll(1);
        due.state("of a main whose pilot goes out", x, 3, 0, 1);
        Burnerline early = Due.quickIn(2);
        Due.set(early, true, Due.PILOT_EYE, Due.MAIN_EYE);
        early.poll(1);
        due.state("of a pilot whose main eye sees too", early, 3, 0, 0);
        early.poll(1);
        due.state("of a main whose eye saw at once", early, 4, 0, 0);
        Burnerline unheeded = Due.quickIn(3);
        unheeded.signal(Due.CHECK, false);
        unheeded.poll(4);
        due.state("of a main with a check that fails", unheeded, 3, 0, 4);
    }

    private static void longestMain() {
        Burnerline x = Due.quickIn(3);
        x.poll(4);
        due.state("a tick before the longest main", x, 3, 0, 4);
        x.poll(1);
        due.state("at the longest main", x, 6, 5, 0);
        Burnerline last = Due.quickIn(3);
        last.poll(4);
        last.signal(Due.MAIN_EYE, true);
        last.poll(1);
        due.state("of a main lit in its last tick", last, 4, 0, 0);
    }

    /** No air, no pressure, no heat, light, and time that is up: whichever of them hold. */
    private static void firstInLighting() {
        for (int state = 2; state <= 3; state++) {
            int eye = state == 2 ? Due.PILOT_EYE : Due.MAIN_EYE;
            for (int holding = 0; holding < 32; holding++) {
                Burnerline x = Due.quick();
                int longest = holds(holding, 16) ? 3 : 4;
                x.setTimes(60, longest, longest, 15);
                Due.lead(x, state);
                x.poll(2);
                x.signal(Due.AIR, !holds(holding, NO_AIR));
                x.signal(Due.PRESSURE, !holds(holding, NO_PRESSURE));
                x.signal(Due.HEAT, !holds(holding, 4));
                x.signal(eye, holds(holding, 8));
                first("lighting " + state, x, holding,
                        new int[][] {{6, 1}, {6, 2}, {5, 0}, {state + 1, 0}, {6, state + 2}});
            }
        }
    }

    private static void run() {
        Burnerline x = Due.quickIn(4);
        x.signal(Due.PILOT_EYE, false);
        x.poll(4);
        due.state("of a run without pilot", x, 4, 0, 4);
        x.signal(Due.MAIN_EYE, false);
        x.signal(Due.PILOT_EYE, true);
        x.poll(1);
        due.state("of a run with a flame at the pilot alone", x, 6, 6, 0);
        Burnerline z = Due.quickIn(4);
        z.poll(200);
        due.state("of a long run", z, 4, 0, 200);
    }

    /** No air, no pressure, no flame, a check that fails, and no heat: whichever of them hold. */
    private static void firstInRun() {
        for (int holding = 0; holding < 32; holding++) {
            Burnerline x = Due.quickIn(4);
            x.poll(4);
            x.signal(Due.AIR, !holds(holding, NO_AIR));
            x.signal(Due.PRESSURE, !holds(holding, NO_PRESSURE));
            x.signal(Due.MAIN_EYE, !holds(holding, 4));
            x.signal(Due.CHECK, !holds(holding, 8));
            x.signal(Due.HEAT, !holds(holding, 16));
            first("run", x, holding, new int[][] {{6, 1}, {6, 2}, {6, 6}, {6, 8}, {5, 0}});
        }
    }

    /** A check of 5: at the times 5 and 10 it must be passed, and at no other time. */
    private static void checks() {
        Burnerline x = Due.quickIn(4);
        for (int time = 1; time <= 11; time++) {
            x.signal(Due.CHECK, time % 5 == 0);
            x.poll(1);
            due.state("with checks that are passed when they are due", x, 4, 0, time);
        }
        for (int failed : new int[] {5, 10, 15}) {
            Burnerline y = Due.quickIn(4);
            y.poll(failed - 1);
            y.signal(Due.CHECK, false);
            due.state("a tick before a check that fails", y, 4, 0, failed - 1);
            y.poll(1);
            due.state("of a check that fails at " + failed, y, 6, 8, 0);
        }
        Burnerline late = Due.quickIn(4);
        late.poll(5);
        late.signal(Due.CHECK, false);
        late.poll(4);
        due.state("a tick before the second check", late, 4, 0, 9);
        late.poll(1);
        due.state("of a second check that fails", late, 6, 8, 0);
    }

    private static void afterPurge() {
        Burnerline x = Due.quickIn(5);
        Due.set(x, false, Due.AIR, Due.PRESSURE, Due.CHECK);
        Due.set(x, true, Due.HEAT);
        x.poll(14);
        due.state("of an after-purge with heat, a flame and no air", x, 5, 0, 14);
        Due.set(x, false, Due.EYES);
        x.poll(1);
        due.state("of an after-purge that ends with heat", x, 0, 0, 0);
        x.poll(1);
        due.state("of off with heat", x, 1, 0, 0);
    }

    /** A tick before its end, and at it, with a flame that goes on, one that comes and one that goes. */
    private static void endOfTheAfterPurge() {
        for (int eye : Due.EYES) {
            for (int flame = 0; flame < 4; flame++) {
                boolean before = (flame & 1) != 0;
                boolean now = (flame & 2) != 0;
                Burnerline x = Due.quickIn(5);
                Due.set(x, false, Due.EYES);
                x.signal(eye, before);
                x.poll(14);
                due.state("a tick before the end of the after-purge", x, 5, 0, 14);
                x.signal(eye, now);
                due.is("poll at the end of the after-purge", x.poll(1), 1);
                due.state("at the end of the after-purge with " + flame, x, now ? 6 : 0, now ? 3 : 0, 0);
            }
        }
    }

    private static void lockout() {
        Burnerline x = Due.quickIn(6);
        due.is("reason of the lockout", x.reason(), 1);
        for (int i = 0; i < 6; i++) {
            x.signal(i, true);
            x.poll(1);
        }
        due.state("of a lockout with all signals on", x, 6, 1, 6);
        for (int i = 0; i < 6; i++) {
            x.signal(i, false);
            x.poll(1);
        }
        due.state("of a lockout with all signals off", x, 6, 1, 12);
        x.poll(200);
        due.state("of a long lockout", x, 6, 1, 212);
    }

    /** From each lockout a reset leads to off, where there is no reason any more. */
    private static void everyReason() {
        for (int reason = 1; reason <= 8; reason++) {
            Burnerline x = lockedOut(reason);
            due.state("of a lockout", x, 6, reason, 0);
            due.is("reason in the record", x.reasonOf(0), reason);
            x.poll(1);
            due.state("a tick later", x, 6, reason, 1);
            Due.set(x, false, Due.EYES);
            x.poll(4);
            x.reset();
            due.state("behind a reset of " + reason, x, 0, 0, 0);
        }
    }

    private static Burnerline lockedOut(int reason) {
        int[] from = {0, 4, 4, 0, 2, 3, 4, 1, 4};
        int[] ticks = {0, 1, 1, 1, 10, 5, 1, 60, 5};
        int[] signal = {0, Due.AIR, Due.PRESSURE, Due.PILOT_EYE, Due.CHECK, Due.CHECK, Due.MAIN_EYE, Due.AIR, Due.CHECK};
        Burnerline x = Due.quickIn(from[reason]);
        x.signal(signal[reason], reason == 3);
        x.poll(ticks[reason]);
        return x;
    }

    private static void aStateBegins() {
        for (int state = 1; state <= 6; state++) {
            Burnerline x = Due.quickIn(state);
            due.state("of a state that begins", x, state, state == 6 ? 1 : 0, 0);
            due.is("purged as state " + state + " begins", x.purged(), 0);
        }
        Burnerline purge = purging(500, 50);
        purge.poll(8);
        due.is("purged long", purge.purged(), 700);
        purge.signal(Due.PILOT_EYE, true);
        purge.poll(2);
        due.state("of a purge with a flame", purge, 6, 3, 0);
        due.is("purged as the lockout begins", purge.purged(), 0);
    }
}
