/** Promises 20 to 24: changes and records. */
public final class RecordsTest {
    private static final int[] COUNTS = {0, 1, 2, 99, 100, 101, 102, 199, 200, 201, 205};

    private static final Due due = new Due();

    public static void main(String[] args) {
        aWholeFiring();
        manyChangesInAPoll();
        reasonsAndResets();
        noRecords();
        counts();
        lastHundred();
        outside();
        aHundredReasons();
        due.end();
    }

    private static void record(Burnerline x, int back, int tick, int state, int reason) {
        due.is("tickOf " + back, x.tickOf(back), tick);
        due.is("stateOf " + back, x.stateOf(back), state);
        due.is("reasonOf " + back, x.reasonOf(back), reason);
    }

    private static void aWholeFiring() {
        Burnerline x = Due.quickIn(4);
        x.poll(7);
        x.signal(Due.MAIN_EYE, false);
        x.poll(9);
        due.is("changes", x.changes(), 5);
        due.is("records", x.records(), 5);
        record(x, 0, 13, 6, 6);
        record(x, 1, 5, 4, 0);
        record(x, 2, 4, 3, 0);
        record(x, 3, 3, 2, 0);
        record(x, 4, 1, 1, 0);
    }

    /** Eyes that are slow let one poll go from the after-purge through all states to a lockout. */
    private static void manyChangesInAPoll() {
        Burnerline x = new Burnerline();
        x.setEyes(5, 1, 5);
        x.setFurnace(1, 50, 50);
        Due.lead(x, 2);
        x.signal(Due.HEAT, false);
        due.is("changes of a poll into the after-purge", x.poll(15), 1);
        x.signal(Due.HEAT, true);
        x.signal(Due.CHECK, false);
        Due.set(x, true, Due.EYES);
        due.is("changes of a poll through all states", x.poll(200), 6);
        due.is("changes", x.changes(), 9);
        record(x, 0, 29, 6, 8);
        record(x, 1, 24, 4, 0);
        record(x, 2, 23, 3, 0);
        record(x, 3, 22, 2, 0);
        record(x, 4, 20, 1, 0);
        record(x, 5, 19, 0, 0);
        record(x, 6, 4, 5, 0);
        record(x, 7, 3, 2, 0);
        record(x, 8, 1, 1, 0);
        due.is("ticks", x.ticks(), 218);
    }

    /** A reset is a change too: to off, without a reason, at the tick that had gone by. */
    private static void reasonsAndResets() {
        Burnerline x = Due.quickIn(6);
        record(x, 0, 6, 6, 1);
        x.poll(9);
        x.reset();
        due.is("records behind a reset", x.records(), 6);
        due.is("changes behind a reset", x.changes(), 6);
        record(x, 0, 15, 0, 0);
        record(x, 1, 6, 6, 1);
        Due.set(x, false, Due.HEAT);
        x.poll(1);
        record(x, 0, 15, 0, 0);
        Due.set(x, true, Due.HEAT);
        x.poll(1);
        record(x, 0, 17, 1, 0);
        record(x, 1, 15, 0, 0);
    }

    private static void noRecords() {
        Burnerline x = new Burnerline();
        x.poll(50);
        due.is("changes without any", x.changes(), 0);
        due.is("records without any", x.records(), 0);
    }

    /** A furnace behind so many changes: heat comes and goes, so that each tick changes the state. */
    private static Burnerline changed(int changes) {
        Burnerline x = new Burnerline();
        for (int change = 1; change <= changes; change++) {
            x.signal(Due.HEAT, change % 2 == 1);
            x.poll(1);
        }
        return x;
    }

    private static void counts() {
        for (int count : COUNTS) {
            Burnerline x = changed(count);
            due.is("changes behind " + count, x.changes(), count);
            due.is("records behind " + count, x.records(), Math.min(100, count));
        }
        Burnerline x = new Burnerline();
        for (int change = 1; change <= 130; change++) {
            x.signal(Due.HEAT, change % 2 == 1);
            due.is("changes of a poll", x.poll(1), 1);
            due.is("records behind " + change, x.records(), Math.min(100, change));
        }
    }

    /** Each record that is kept, the oldest included. */
    private static void lastHundred() {
        for (int count : COUNTS) {
            Burnerline ticks = changed(count);
            Burnerline states = changed(count);
            Burnerline reasons = changed(count);
            for (int back = 0; back < Math.min(100, count); back++) {
                String where = back + " of " + count;
                due.is("tickOf " + where, ticks.tickOf(back), count - back);
                due.is("stateOf " + where, states.stateOf(back), (count - back) % 2);
                due.is("reasonOf " + where, reasons.reasonOf(back), 0);
            }
        }
    }

    /** The first one that is not kept, the one behind it, the first that ever was, and none at all. */
    private static void outside() {
        for (int count : new int[] {0, 1, 5, 99, 100, 101, 105}) {
            int kept = Math.min(100, count);
            for (int back : new int[] {-1, -100, kept, kept + 1, 104, 200, Integer.MIN_VALUE, Integer.MAX_VALUE}) {
                if (back < 0 || back >= kept) {
                    noRecord(count, back);
                }
            }
        }
    }

    private static void noRecord(int count, int back) {
        String of = back + " of " + count;
        Burnerline x = changed(count);
        due.refused("tickOf " + of, IndexOutOfBoundsException.class, x, () -> x.tickOf(back));
        Burnerline y = changed(count);
        due.refused("stateOf " + of, IndexOutOfBoundsException.class, y, () -> y.stateOf(back));
        Burnerline z = changed(count);
        due.refused("reasonOf " + of, IndexOutOfBoundsException.class, z, () -> z.reasonOf(back));
    }

    /** Stray flames and resets, until more records have been made than are kept. */
    private static void aHundredReasons() {
        Burnerline x = Due.quick();
        for (int flame = 1; flame <= 53; flame++) {
            x.signal(Due.PILOT_EYE, true);
            x.poll(1);
            x.signal(Due.PILOT_EYE, false);
            x.poll(39);
            x.reset();
        }
        due.is("changes behind 53 flames", x.changes(), 106);
        for (int back = 0; back < 100; back++) {
            due.is("reasonOf " + back + " behind 53 flames", x.reasonOf(back), back % 2 == 0 ? 0 : 3);
        }
        for (int back : new int[] {0, 1, 2, 3, 50, 51, 98, 99}) {
            due.is("stateOf " + back + " behind 53 flames", x.stateOf(back), back % 2 == 0 ? 0 : 6);
            int tick = back % 2 == 0 ? 53 * 40 - back * 20 : 53 * 40 - 39 - (back - 1) * 20;
            due.is("tickOf " + back + " behind 53 flames", x.tickOf(back), tick);
        }
    }
}
