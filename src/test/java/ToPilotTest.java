/** Promise 27: how soon the pilot valve would open, held against what then comes true. */
public final class ToPilotTest {
    private static final Due due = new Due();

    public static void main(String[] args) {
        fromEachState();
        whateverTheSignals();
        openAlready();
        theNextTick();
        fromOffWithAFlame();
        fromAnAfterPurge();
        inAPurge();
        tooShortAPurge();
        theFarthest();
        due.end();
    }

    /** Asks, then lets come what was asked about: the valve opens at that tick and not before. */
    private static void opens(String where, Burnerline x, int ticks) {
        due.is("toPilot " + where, x.toPilot(), ticks);
        Due.set(x, true, Due.HEAT, Due.AIR, Due.PRESSURE);
        Due.set(x, false, Due.EYES);
        for (int left = ticks; left > 0; left--) {
            due.is("the pilot valve " + where + ", " + left + " before", x.isOpen(false), false);
            due.is("toPilot " + where + ", " + left + " before", x.toPilot(), left);
            x.poll(1);
        }
        due.is("the pilot valve " + where, x.isOpen(false), true);
        due.is("toPilot " + where + " when it is open", x.toPilot(), 0);
    }

    private static void staysShut(String where, Burnerline x) {
        due.is("toPilot " + where, x.toPilot(), Burnerline.NONE);
        Due.set(x, true, Due.HEAT, Due.AIR, Due.PRESSURE);
        Due.set(x, false, Due.EYES);
        for (int tick = 1; tick <= 100; tick++) {
            x.poll(3);
            due.is("the pilot valve " + where + " behind " + 3 * tick, x.isOpen(false), false);
        }
    }

    private static void fromEachState() {
        opens("of a new one", new Burnerline(), 13);
        int[] quick = {3, 2, 0, 0, Burnerline.NONE, 18, Burnerline.NONE};
        for (int state = 0; state <= 6; state++) {
            if (quick[state] == Burnerline.NONE) {
                staysShut("from " + state, Due.quickIn(state));
            } else {
                opens("from " + state, Due.quickIn(state), quick[state]);
            }
        }
        Burnerline locked = Due.quickIn(6);
        locked.poll(5);
        staysShut("of a lockout that could be reset", locked);
        Burnerline reset = Due.quickIn(6);
        reset.poll(5);
        reset.reset();
        opens("behind a reset", reset, 3);
    }

    private static void whateverTheSignals() {
        int[] quick = {3, 2, 0, 0, Burnerline.NONE, 18, Burnerline.NONE};
        for (int state = 0; state <= 6; state++) {
            for (int told = 0; told < 64; told++) {
                Burnerline x = Due.quickIn(state);
                for (int signal = 0; signal < 6; signal++) {
                    x.signal(signal, (told >> signal & 1) == 1);
                }
                due.is("toPilot from " + state + " with signals " + told, x.toPilot(), quick[state]);
            }
        }
    }

    private static void openAlready() {
        Burnerline pilot = Due.quickIn(2);
        pilot.poll(9);
        due.is("toPilot in the last tick of the pilot", pilot.toPilot(), 0);
        pilot.poll(1);
        due.is("toPilot when the pilot was not lit", pilot.toPilot(), Burnerline.NONE);
        Burnerline main = Due.quickIn(3);
        main.poll(4);
        due.is("toPilot in the last tick of main", main.toPilot(), 0);
        main.signal(Due.MAIN_EYE, true);
        main.poll(1);
        due.is("toPilot in a run", main.toPilot(), Burnerline.NONE);
    }

    private static void theNextTick() {
        Burnerline x = Due.quickIn(1);
        x.poll(1);
        opens("a tick before the pilot", x, 1);
    }

    /** Heat that ends in a purge leads to off, though an eye sees a flame. */
    private static void fromOffWithAFlame() {
        for (int eye : Due.EYES) {
            Burnerline gone = Due.quickIn(1);
            gone.signal(Due.HEAT, false);
            gone.signal(eye, true);
            gone.poll(1);
            due.is("state with a flame", gone.state(), 0);
            opens("with a flame that is gone at the next tick", gone, 3);
            Burnerline stays = Due.quick();
            stays.setEyes(1, 2, 5);
            Due.lead(stays, 1);
            stays.signal(Due.HEAT, false);
            stays.signal(eye, true);
            stays.poll(1);
            staysShut("with a flame that is seen for a tick more", stays);
            Burnerline purge = new Burnerline();
            Due.lead(purge, 1);
            purge.poll(6);
            purge.signal(eye, true);
            purge.poll(1);
            opens("with light that is not seen yet", purge, 5);
        }
    }

    private static Burnerline afterPurgeAt(int time) {
        Burnerline x = new Burnerline();
        x.setEyes(1, 5, 5);
        x.setFurnace(1, 50, 50);
        Due.lead(x, 5);
        Due.pass(x, time);
        return x;
    }

    /** 15 of the after-purge, 1 of off that lets the air down to 10, and 2 until it is at 70 or more. */
    private static void fromAnAfterPurge() {
        opens("from the after-purge", afterPurgeAt(0), 18);
        opens("when the flame is gone just in time", afterPurgeAt(10), 8);
        staysShut("when the flame is seen a tick too long", afterPurgeAt(11));
        Burnerline last = Due.quickIn(5);
        Due.set(last, false, Due.EYES);
        last.poll(14);
        opens("in the last tick of the after-purge", last, 4);
    }

    private static void inAPurge() {
        Burnerline x = new Burnerline();
        Due.lead(x, 1);
        x.poll(6);
        due.is("toPilot in a purge", x.toPilot(), 6);
        x.signal(Due.AIR, false);
        x.poll(1);
        opens("when the purge begins anew", x, 8);
    }

    private static Burnerline slow(int longestPurge) {
        Burnerline x = new Burnerline();
        x.setTimes(longestPurge, 1, 1, 60);
        x.setFurnace(500, 1, 1);
        return x;
    }

    /** A tick of off, 69 ticks with too little air, and 70 + .. + 94 make 2050. */
    private static void tooShortAPurge() {
        opens("of a slow furnace", slow(200), 95);
        opens("in the last tick of the purge", slow(94), 95);
        staysShut("of a purge a tick too short", slow(93));
        Burnerline x = slow(94);
        Due.lead(x, 1);
        x.signal(Due.AIR, false);
        x.poll(69);
        opens("of a purge that has lost nothing", x, 25);
        Burnerline lost = slow(94);
        Due.lead(lost, 1);
        lost.signal(Due.AIR, false);
        lost.poll(70);
        staysShut("of a purge that has lost a tick", lost);
    }

    /** The longest after-purge, which leaves an air of 60, and the slowest purge: no way is longer. */
    private static void theFarthest() {
        Burnerline x = slow(200);
        x.setTimes(200, 30, 30, 60);
        x.setEyes(1, 1, 100);
        x.setRate(20);
        Due.set(x, true, Due.HEAT, Due.AIR, Due.PRESSURE, Due.CHECK);
        x.poll(95);
        Due.set(x, true, Due.EYES);
        x.poll(200);
        due.is("state of a slow run", x.state(), 4);
        due.is("air of a slow run", x.air(), 20);
        x.signal(Due.HEAT, false);
        x.poll(1);
        due.is("state behind a slow run", x.state(), 5);
        opens("of a slow furnace that cools", x, 96);
    }
}
