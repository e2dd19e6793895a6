/**
 * The document once more, for the tests alone: written from the text in the plainest way, with a walk
 * that leaves nothing out, to be held against the program in long runs.
 */
final class Model {
    /** Settings: 0 purge, 1 pilot, 2 main, 3 after, 4 light, 5 none, 6 check, 7 volume, 8 air, 9 fuel, 10 rate. */
    int[] set = {60, 10, 5, 15, 2, 3, 30, 200, 20, 10, 50};
    boolean[] signals = new boolean[6];
    boolean[] eye = new boolean[2];
    int[] row = new int[2];
    int state;
    int reason;
    int time;
    int air;
    int fuel;
    int purged;
    int unlit;
    int longest;
    int ticks;
    java.util.List<int[]> records = new java.util.ArrayList<>();
    java.util.List<Integer> resets = new java.util.ArrayList<>();

    Model copy() {
        Model m = new Model();
        m.set = set;
        m.signals = signals.clone();
        m.eye = eye.clone();
        m.row = row.clone();
        m.state = state;
        m.reason = reason;
        m.time = time;
        m.air = air;
        m.fuel = fuel;
        m.purged = purged;
        m.unlit = unlit;
        m.longest = longest;
        m.ticks = ticks;
        m.records = new java.util.ArrayList<>();
        return m;
    }

    boolean flame() {
        return eye[0] || eye[1];
    }

    void change(int to, int why) {
        state = to;
        reason = why;
        time = 0;
        purged = 0;
        if (to != 3 && to != 4) {
            fuel = 0;
        }
        records.add(new int[] {ticks, to, why});
    }

    static int towards(int from, int goal, int step) {
        int way = goal - from;
        return Math.abs(way) <= step ? goal : from + Integer.signum(way) * step;
    }

    void tick() {
        int begun = state;
        ticks++;
        for (int e = 0; e < 2; e++) {
            boolean on = signals[3 + e];
            row[e] = on != eye[e] ? row[e] + 1 : 0;
            if (row[e] >= (on ? set[4] : set[5]) && on != eye[e]) {
                eye[e] = on;
                row[e] = 0;
            }
        }
        int[] airGoals = {0, 100, 30, 30, Math.max(set[10], fuel), 60, 60};
        int[] fuelGoals = {0, 0, 0, 20, Math.min(set[10], air), 0, 0};
        air = towards(air, airGoals[begun], set[8]);
        fuel = begun == 3 || begun == 4 ? towards(fuel, fuelGoals[begun], set[9]) : 0;
        time++;
        first();
        unlit = begun >= 2 && begun <= 4 && !flame() ? unlit + 1 : 0;
        longest = Math.max(longest, unlit);
    }

    private void first() {
        boolean heat = signals[0];
        if (state == 0) {
            if (flame()) {
                change(6, 3);
            } else if (heat) {
                change(1, 0);
            }
        } else if (state == 1) {
            if (!heat) {
                change(0, 0);
            } else if (flame()) {
                change(6, 3);
            } else {
                purged = signals[1] && air >= 70 ? purged + air : 0;
                if (purged >= 4 * set[7]) {
                    change(2, 0);
                } else if (time >= set[0]) {
                    change(6, 7);
                }
            }
        } else if (state == 5) {
            if (time >= set[3]) {
                change(flame() ? 6 : 0, flame() ? 3 : 0);
            }
        } else if (state != 6) {
            firing(heat);
        }
    }

    private void firing(boolean heat) {
        if (!signals[1]) {
            change(6, 1);
        } else if (!signals[2]) {
            change(6, 2);
        } else if (state == 4) {
            if (!eye[1]) {
                change(6, 6);
            } else if (time % set[6] == 0 && !signals[5]) {
                change(6, 8);
            } else if (!heat) {
                change(5, 0);
            }
        } else if (!heat) {
            change(5, 0);
        } else if (state == 2) {
            if (eye[0]) {
                change(3, 0);
            } else if (time >= set[1]) {
                change(6, 4);
            }
        } else if (eye[1]) {
            change(4, 0);
        } else if (time >= set[2]) {
            change(6, 5);
        }
    }

    int recentResets() {
        int recent = 0;
        for (int reset : resets) {
            recent += ticks - reset < 100 ? 1 : 0;
        }
        return recent;
    }

    /** Bit s for each state s, bit 8 + k for each reason k. */
    int walk(int depth) {
        int found = 0;
        for (int way = 0; way < 64; way++) {
            Model next = copy();
            for (int i = 0; i < 6; i++) {
                next.signals[i] = (way >> i & 1) == 1;
            }
            next.tick();
            found |= 1 << next.state;
            if (next.state == 6 && state != 6) {
                found |= 1 << (8 + next.reason);
            }
            if (depth > 1) {
                found |= next.walk(depth - 1);
            }
        }
        return found;
    }

    int toPilot() {
        if (state == 2 || state == 3) {
            return 0;
        }
        Model next = copy();
        next.signals = new boolean[] {true, true, true, false, false, true};
        for (int t = 1; t <= 300; t++) {
            next.tick();
            if (next.state == 2) {
                return t;
            }
        }
        return -1;
    }
}
