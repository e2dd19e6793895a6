/** The calls that README.md shows, in its order, and the answers that it tells. */
public final class ReadmeTest {
    private static final Due due = new Due();

    public static void main(String[] args) {
        Burnerline x = new Burnerline();
        settings(x);
        signals(x);
        purge(x);
        pilot(x);
        run(x);
        lockout(x);
        records(x);
        due.end();
    }

    private static void settings(Burnerline x) {
        x.setTimes(60, 10, 5, 15);
        x.setEyes(2, 3, 30);
        x.setFurnace(100, 20, 10);
        due.is("setRate(90)", x.setRate(90), 50);
    }

    private static void signals(Burnerline x) {
        due.is("signal(0, true)", x.signal(0, true), false);
        due.is("signal(1, true)", x.signal(1, true), false);
        due.is("signal(2, true)", x.signal(2, true), false);
        due.is("signal(5, true)", x.signal(5, true), false);
        due.is("toPilot()", x.toPilot(), 9);
        due.is("couldBe(1, 1)", x.couldBe(1, 1), true);
        due.is("couldBe(2, 3)", x.couldBe(2, 3), false);
    }

    private static void purge(Burnerline x) {
        due.is("poll(6)", x.poll(6), 1);
        due.is("state() of the purge", x.state(), 1);
        due.is("time()", x.time(), 5);
        due.is("air()", x.air(), 100);
        due.is("purged()", x.purged(), 180);
        due.is("toPilot() in the purge", x.toPilot(), 3);
        due.refused("setEyes(1, 1, 30)", IllegalStateException.class, x, () -> x.setEyes(1, 1, 30));
    }

    private static void pilot(Burnerline x) {
        due.is("poll(3) to the pilot", x.poll(3), 1);
        due.is("state() of the pilot", x.state(), 2);
        due.is("isOpen(false)", x.isOpen(false), true);
        due.is("isOpen(true)", x.isOpen(true), false);
        due.is("couldBe(4, 3)", x.couldBe(4, 3), true);
        due.is("reasonsAhead(3)", x.reasonsAhead(3), 6);
        due.is("signal(3, true)", x.signal(3, true), false);
        due.is("poll(1)", x.poll(1), 0);
        due.is("sees(false)", x.sees(false), false);
        due.is("unlit()", x.unlit(), 1);
        due.is("poll(1) to main", x.poll(1), 1);
        due.is("sees(false) in main", x.sees(false), true);
        due.is("unlit() in main", x.unlit(), 0);
        due.is("longestUnlit()", x.longestUnlit(), 1);
    }

    private static void run(Burnerline x) {
        due.is("signal(4, true)", x.signal(4, true), false);
        due.is("poll(2) to the run", x.poll(2), 1);
        due.is("state() of the run", x.state(), 4);
        due.is("air() as the run begins", x.air(), 30);
        due.is("fuel() as the run begins", x.fuel(), 20);
        due.is("poll(3) in the run", x.poll(3), 0);
        due.is("air() in the run", x.air(), 90);
        due.is("fuel() in the run", x.fuel(), 50);
    }

    private static void lockout(Burnerline x) {
        due.is("signal(3, false)", x.signal(3, false), true);
        due.is("signal(4, false)", x.signal(4, false), true);
        due.is("poll(3) to the lockout", x.poll(3), 1);
        due.is("state() of the lockout", x.state(), 6);
        due.is("reason()", x.reason(), 6);
        due.is("fuel() in the lockout", x.fuel(), 0);
        due.is("toPilot() in the lockout", x.toPilot(), Burnerline.NONE);
        due.refused("reset() at once", IllegalStateException.class, x, x::reset);
        due.is("poll(5)", x.poll(5), 0);
        due.is("reset()", x.reset(), 1);
        due.is("state() behind the reset", x.state(), 0);
        due.is("reason() behind the reset", x.reason(), 0);
    }

    private static void records(Burnerline x) {
        due.is("ticks()", x.ticks(), 24);
        due.is("changes()", x.changes(), 6);
        due.is("records()", x.records(), 6);
        due.is("tickOf(1)", x.tickOf(1), 19);
        due.is("stateOf(1)", x.stateOf(1), 6);
        due.is("reasonOf(1)", x.reasonOf(1), 6);
        due.is("stateOf(0)", x.stateOf(0), 0);
        due.refused("stateOf(6)", IndexOutOfBoundsException.class, x, () -> x.stateOf(6));
        due.refused("poll(201)", IllegalArgumentException.class, x, () -> x.poll(201));
    }
}
