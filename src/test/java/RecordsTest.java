/** Promises 20 to 24: changes and records. */
public final class RecordsTest {
    private static final Due due = new Due();

    public static void main(String[] args) {
        aWholeFiring();
        noRecords();
        aHundredRecords();
        due.end();
    }

    private static void aWholeFiring() {
        Burnerline x = Due.quickIn(4);
        x.poll(7);
        x.signal(Due.MAIN_EYE, false);
        x.poll(9);
        int[][] told = {{13, 6, 6}, {5, 4, 0}, {4, 3, 0}, {3, 2, 0}, {1, 1, 0}};
        due.is("changes", x.changes(), 5);
        due.is("records", x.records(), 5);
        for (int back = 0; back < told.length; back++) {
            due.is("tickOf " + back, x.tickOf(back), told[back][0]);
            due.is("stateOf " + back, x.stateOf(back), told[back][1]);
            due.is("reasonOf " + back, x.reasonOf(back), told[back][2]);
        }
        for (int wrong : new int[] {-1, 5, 100, Integer.MIN_VALUE, Integer.MAX_VALUE}) {
            Burnerline y = Due.quickIn(4);
            noRecord(y, wrong);
        }
        noRecord(x, 5);
    }

    private static void noRecords() {
        noRecord(new Burnerline(), 0);
        noRecord(new Burnerline(), -1);
        noRecord(new Burnerline(), 99);
        Burnerline x = new Burnerline();
        x.poll(50);
        noRecord(x, 0);
        due.is("changes without any", x.changes(), 0);
    }

    private static void noRecord(Burnerline x, int back) {
        due.refused("tickOf " + back, IndexOutOfBoundsException.class, x, () -> x.tickOf(back));
        due.refused("stateOf " + back, IndexOutOfBoundsException.class, x, () -> x.stateOf(back));
        due.refused("reasonOf " + back, IndexOutOfBoundsException.class, x, () -> x.reasonOf(back));
    }

    /** Heat comes and goes, so that the state changes with every poll of one tick. */
    private static void aHundredRecords() {
        Burnerline x = new Burnerline();
        for (int change = 1; change <= 105; change++) {
            x.signal(Due.HEAT, change % 2 == 1);
            due.is("changes of a poll", x.poll(1), 1);
            if (change >= 99 && change <= 102) {
                due.is("records behind " + change, x.records(), Math.min(100, change));
                due.is("changes behind " + change, x.changes(), change);
            }
        }
        due.is("records behind 105", x.records(), 100);
        due.is("changes behind 105", x.changes(), 105);
        for (int back : new int[] {0, 1, 2, 3, 4, 5, 6, 50, 94, 95, 98, 99}) {
            due.is("tickOf " + back, x.tickOf(back), 105 - back);
            due.is("stateOf " + back, x.stateOf(back), (105 - back) % 2);
            due.is("reasonOf " + back, x.reasonOf(back), 0);
        }
        outOf(x, 100);
        outOf(x, 104);
        outOf(x, -1);
        due.is("records behind wrong ones", x.records(), 100);
    }

    /** Without a look at every record before and behind: that would take more than 512 calls. */
    private static void outOf(Burnerline x, int back) {
        int thrown = 0;
        try {
            x.tickOf(back);
        } catch (IndexOutOfBoundsException e) {
            thrown++;
        }
        try {
            x.stateOf(back);
        } catch (IndexOutOfBoundsException e) {
            thrown++;
        }
        try {
            x.reasonOf(back);
        } catch (IndexOutOfBoundsException e) {
            thrown++;
        }
        due.is("calls refused for " + back, thrown, 3);
    }
}
