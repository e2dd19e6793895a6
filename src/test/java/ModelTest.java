/** All promises: long runs of calls, each answer held against the model's. The same runs every time. */
public final class ModelTest {
    private static final int RUNS = 1500;
    /** An object is good for 512 calls, and a step makes ten at the most. */
    private static final int CALLS = 512 - 10;
    private static final int DEEP_WALKS = 150;
    private static final int REFUSED = Integer.MIN_VALUE;

    private static final Due due = new Due();
    private static final int[] statesMet = new int[7];
    private static final int[] reasonsMet = new int[9];
    private static int deepWalks;
    private static int resetsMet;

    private final Burnerline x = new Burnerline();
    private final Model m = new Model();
    private final int run;
    private final int faults;
    private long seed;
    private int calls;

    private ModelTest(int run) {
        this.run = run;
        seed = run * 7919L + 17;
        faults = 2 + below(60);
    }

    public static void main(String[] args) {
        for (int run = 0; run < RUNS; run++) {
            new ModelTest(run).go();
        }
        for (int state = 0; state < 7; state++) {
            due.is("state " + state + " is met often", statesMet[state] > 500, true);
        }
        for (int reason = 1; reason < 9; reason++) {
            due.is("reason " + reason + " is met often", reasonsMet[reason] > 20, true);
        }
        due.is("deep walks", deepWalks, DEEP_WALKS);
        due.is("resets are met often", resetsMet > 500, true);
        due.end();
    }

    private int below(int bound) {
        seed = seed * 6364136223846793005L + 1442695040888963407L;
        return (int) ((seed >>> 33) % bound);
    }

    private int between(int least, int greatest) {
        return least + below(greatest - least + 1);
    }

    private void go() {
        if (below(3) > 0) {
            setAll();
        }
        while (calls < CALLS) {
            step();
        }
    }

    private void is(String call, int got, int want) {
        calls++;
        due.is("run " + run + ", call " + calls + ", " + call, got, want);
    }

    private void step() {
        int kind = m.state == 6 && below(3) == 0 ? 15 : below(20);
        if (kind < 7) {
            operate();
        } else if (kind < 13) {
            poll();
        } else if (kind < 14) {
            rate();
        } else if (kind < 15) {
            setAll();
        } else if (kind < 16) {
            reset();
        } else if (kind < 18) {
            askOne();
        } else if (kind < 19) {
            askRecord();
        } else {
            askAhead();
        }
    }

    /** Mostly what a furnace that works would tell; a fault now and then. */
    private void operate() {
        int signal = below(2) == 0 ? between(3, 4) : below(6);
        boolean wanted = m.state != 4 || below(3) > 0;
        boolean[] sound = {wanted, true, true, m.state == 2 || m.state == 3, m.state == 3 || m.state == 4, true};
        boolean on = below(faults) == 0 ? below(2) == 0 : sound[signal];
        signal(signal, on);
        if (below(40) == 0) {
            signal(below(2) == 0 ? 6 + below(9) : -1 - below(9), on);
        }
    }

    private void signal(int signal, boolean on) {
        int want = REFUSED;
        if (signal >= 0 && signal < 6) {
            want = m.signals[signal] ? 1 : 0;
            m.signals[signal] = on;
        }
        int got;
        try {
            got = x.signal(signal, on) ? 1 : 0;
        } catch (IndexOutOfBoundsException e) {
            got = REFUSED;
        }
        is("signal " + signal + " " + on, got, want);
    }

    private void poll() {
        int ticks = below(30) == 0 ? between(-1, 201) : between(1, below(4) == 0 ? 30 : 3);
        int want = REFUSED;
        if (ticks >= 1 && ticks <= 200) {
            int before = m.records.size();
            for (int i = 0; i < ticks; i++) {
                m.tick();
            }
            want = m.records.size() - before;
            statesMet[m.state]++;
            reasonsMet[m.reason]++;
        }
        int got;
        try {
            got = x.poll(ticks);
        } catch (IllegalArgumentException e) {
            got = REFUSED;
        }
        is("poll " + ticks, got, want);
        askOne();
        askOne();
    }

    private void rate() {
        int rate = between(18, 102);
        int want = REFUSED;
        if (rate >= 20 && rate <= 100) {
            want = m.set[10];
            m.set[10] = rate;
        }
        int got;
        try {
            got = x.setRate(rate);
        } catch (IllegalArgumentException e) {
            got = REFUSED;
        }
        is("setRate " + rate, got, want);
    }

    private void setAll() {
        set(0, new int[] {1, 1, 1, 1}, new int[] {200, 30, 30, 60});
        set(4, new int[] {1, 1, 5}, new int[] {5, 5, 100});
        set(7, new int[] {1, 1, 1}, new int[] {below(2) == 0 ? 60 : 500, 50, 50});
    }

    private void set(int from, int[] least, int[] greatest) {
        int[] told = new int[least.length];
        boolean fits = true;
        for (int i = 0; i < told.length; i++) {
            told[i] = between(least[i], greatest[i]);
            if (below(60) == 0) {
                told[i] = below(2) == 0 ? least[i] - 1 : greatest[i] + 1;
            }
            int bound = from == 7 && i == 0 ? 500 : greatest[i];
            fits &= told[i] >= least[i] && told[i] <= bound;
        }
        int want = !fits ? 1 : m.state != 0 ? 2 : 0;
        if (want == 0) {
            System.arraycopy(told, 0, m.set, from, told.length);
        }
        int got = 0;
        try {
            tell(from, told);
        } catch (IllegalArgumentException e) {
            got = 1;
        } catch (IllegalStateException e) {
            got = 2;
        }
        is("settings from " + from, got, want);
    }

    private void tell(int from, int[] told) {
        if (from == 0) {
            x.setTimes(told[0], told[1], told[2], told[3]);
        } else if (from == 4) {
            x.setEyes(told[0], told[1], told[2]);
        } else {
            x.setFurnace(told[0], told[1], told[2]);
        }
    }

    private void reset() {
        int want = REFUSED;
        if (m.state == 6 && !m.flame() && m.time >= 5 && m.recentResets() < 3) {
            m.change(0, 0);
            m.resets.add(m.ticks);
            want = m.recentResets();
        }
        int got;
        try {
            got = x.reset();
        } catch (IllegalStateException e) {
            got = REFUSED;
        }
        resetsMet += want > 0 ? 1 : 0;
        is("reset", got, want);
    }

    private void askOne() {
        switch (below(15)) {
            case 0: is("ticks", x.ticks(), m.ticks); break;
            case 1: is("state", x.state(), m.state); break;
            case 2: is("reason", x.reason(), m.reason); break;
            case 3: is("time", x.time(), m.time); break;
            case 4: is("isOpen(true)", x.isOpen(true) ? 1 : 0, m.state == 3 || m.state == 4 ? 1 : 0); break;
            case 5: is("isOpen(false)", x.isOpen(false) ? 1 : 0, m.state == 2 || m.state == 3 ? 1 : 0); break;
            case 6: is("sees(true)", x.sees(true) ? 1 : 0, m.eye[1] ? 1 : 0); break;
            case 7: is("sees(false)", x.sees(false) ? 1 : 0, m.eye[0] ? 1 : 0); break;
            case 8: is("air", x.air(), m.air); break;
            case 9: is("fuel", x.fuel(), m.fuel); break;
            case 10: is("purged", x.purged(), m.purged); break;
            case 11: is("unlit", x.unlit(), m.unlit); break;
            case 12: is("longestUnlit", x.longestUnlit(), m.longest); break;
            case 13: is("changes", x.changes(), m.records.size()); break;
            default: is("records", x.records(), Math.min(100, m.records.size())); break;
        }
    }

    private void askRecord() {
        int kept = Math.min(100, m.records.size());
        int back = below(4) == 0 ? between(-2, 102) : between(-1, kept);
        int part = below(3);
        int want = back >= 0 && back < kept ? m.records.get(m.records.size() - 1 - back)[part] : REFUSED;
        int got;
        try {
            got = part == 0 ? x.tickOf(back) : part == 1 ? x.stateOf(back) : x.reasonOf(back);
        } catch (IndexOutOfBoundsException e) {
            got = REFUSED;
        }
        is("record " + back + ", part " + part, got, want);
    }

    private void askAhead() {
        is("toPilot", x.toPilot(), m.toPilot());
        int depth = between(1, 2);
        if (deepWalks < DEEP_WALKS && below(m.state == 6 ? 400 : 60) == 0) {
            deepWalks++;
            depth = 3;
        }
        int found = m.walk(depth);
        for (int state = 0; state <= 6; state++) {
            is("couldBe " + state + ", " + depth, x.couldBe(state, depth) ? 1 : 0, found >> state & 1);
        }
        int reasons = m.state == 6 ? 0 : found >> 8;
        is("reasonsAhead " + depth, x.reasonsAhead(depth), reasons);
    }
}
