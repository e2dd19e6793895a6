/**
 * A sequencer of a furnace with one burner: it purges, lights a pilot and a main flame, fires with
 * air and fuel that limit each other, and locks out with a reason when something is wrong or takes
 * too long.
 */
public final class Burnerline {
    public static final int NONE = -1;

    private static final int SIGNALS = 6;
    private static final int HEAT = 1;
    private static final int AIR_FLOWS = 2;
    private static final int PRESSURE = 4;
    private static final int PILOT_LIGHT = 8;
    private static final int MAIN_LIGHT = 16;
    private static final int CHECK_PASSED = 32;
    private static final int BOTH_LIGHTS = PILOT_LIGHT | MAIN_LIGHT;
    private static final int ALL_SIGNALS = 63;

    private static final int OFF = 0;
    private static final int PURGE = 1;
    private static final int PILOT = 2;
    private static final int MAIN = 3;
    private static final int RUN = 4;
    private static final int AFTER_PURGE = 5;
    private static final int LOCKOUT = 6;

    private static final int NO_REASON = 0;
    private static final int NO_AIR = 1;
    private static final int NO_PRESSURE = 2;
    private static final int STRAY_FLAME = 3;
    private static final int NO_PILOT = 4;
    private static final int NO_MAIN = 5;
    private static final int FLAME_LOST = 6;
    private static final int PURGE_TOO_LONG = 7;
    private static final int CHECK_FAILED = 8;

    private static final int FULL_AIR = 100;
    private static final int LIGHTING_AIR = 30;
    private static final int COOLING_AIR = 60;
    private static final int PURGING_AIR = 70;
    private static final int LIGHTING_FUEL = 20;
    private static final int PURGED_VOLUMES = 4;

    private static final int LONGEST_POLL = 200;
    private static final int LONGEST_WALK = 3;
    private static final int LONGEST_WAY_TO_PILOT = 300;
    private static final int KEPT_RECORDS = 100;
    private static final int RESET_WINDOW = 100;
    private static final int RESETS_IN_WINDOW = 3;
    private static final int LOCKOUT_BEFORE_RESET = 5;

    /** In what a walk found, bit s stands for state s and bit (this + k) for a lockout with reason k. */
    private static final int REASONS_SHIFT = 8;

    private final Settings settings;
    private final Furnace furnace;
    private final History history;
    private final Resets resets;
    private final Ahead ahead;
    private int signals;
    private int ticks;

    public Burnerline() {
        settings = new Settings();
        furnace = new Furnace(settings);
        history = new History();
        resets = new Resets();
        // One furnace for each tick of the longest walk, made here so that no call makes any.
        ahead = new Ahead(settings, new Ahead(settings, new Ahead(settings, null)));
    }

    // ---- signals and settings

    public boolean signal(int signal, boolean on) throws IndexOutOfBoundsException {
        if (signal < 0 || signal >= SIGNALS) {
            throw new IndexOutOfBoundsException("no such signal");
        }
        int bit = 1 << signal;
        boolean was = isOn(signals, bit);
        signals = on ? signals | bit : signals & ~bit;
        return was;
    }

    public int setRate(int rate) throws IllegalArgumentException {
        if (isOutside(rate, 20, 100)) {
            throw new IllegalArgumentException("rate is out of range");
        }
        int was = settings.rate;
        settings.rate = rate;
        return was;
    }

    public void setTimes(int purge, int pilot, int main, int after)
            throws IllegalArgumentException, IllegalStateException {
        if (isOutside(purge, 1, 200) || isOutside(pilot, 1, 30)
                || isOutside(main, 1, 30) || isOutside(after, 1, 60)) {
            throw new IllegalArgumentException("a time is out of range");
        }
        refuseUnlessOff();
        settings.longestPurge = purge;
        settings.longestPilot = pilot;
        settings.longestMain = main;
        settings.afterPurge = after;
    }

    public void setEyes(int light, int none, int check)
            throws IllegalArgumentException, IllegalStateException {
        if (isOutside(light, 1, 5) || isOutside(none, 1, 5) || isOutside(check, 5, 100)) {
            throw new IllegalArgumentException("a setting of the eyes is out of range");
        }
        refuseUnlessOff();
        settings.ticksToLight = light;
        settings.ticksToNone = none;
        settings.ticksToCheck = check;
    }

    public void setFurnace(int volume, int air, int fuel)
            throws IllegalArgumentException, IllegalStateException {
        if (isOutside(volume, 1, 500) || isOutside(air, 1, 50) || isOutside(fuel, 1, 50)) {
            throw new IllegalArgumentException("a setting of the furnace is out of range");
        }
        refuseUnlessOff();
        settings.volume = volume;
        settings.airStep = air;
        settings.fuelStep = fuel;
    }

    // ---- the clock and resets

    public int poll(int ticks) throws IllegalArgumentException {
        if (isOutside(ticks, 1, LONGEST_POLL)) {
            throw new IllegalArgumentException("ticks is out of range");
        }
        int changed = 0;
        for (int i = 0; i < ticks; i++) {
            this.ticks++;
            if (furnace.tick(signals)) {
                recordChange();
                changed++;
            }
        }
        return changed;
    }

    public int reset() throws IllegalStateException {
        if (!furnace.isLockedOut() || furnace.hasFlame()) {
            throw new IllegalStateException("it is not locked out, or there is a flame");
        }
        if (furnace.time < LOCKOUT_BEFORE_RESET || resets.recent(ticks) >= RESETS_IN_WINDOW) {
            throw new IllegalStateException("it is too soon for a reset");
        }
        furnace.begin(OFF, NO_REASON);
        recordChange();
        resets.add(ticks);
        return resets.recent(ticks);
    }

    // ---- what is asked: state

    public int ticks() {
        return ticks;
    }

    public int state() {
        return furnace.state;
    }

    public int reason() {
        return furnace.reason;
    }

    public int time() {
        return furnace.time;
    }

    public boolean isOpen(boolean main) {
        return main ? furnace.isMainOpen() : furnace.isPilotOpen();
    }

    public boolean sees(boolean main) {
        return main ? furnace.mainEye.seesFlame : furnace.pilotEye.seesFlame;
    }

    public int air() {
        return furnace.air;
    }

    public int fuel() {
        return furnace.fuel;
    }

    public int purged() {
        return furnace.purged;
    }

    public int unlit() {
        return furnace.unlit;
    }

    public int longestUnlit() {
        return furnace.longestUnlit;
    }

    // ---- records

    public int changes() {
        return history.added;
    }

    public int records() {
        return history.kept;
    }

    public int tickOf(int back) throws IndexOutOfBoundsException {
        if (!history.has(back)) {
            throw new IndexOutOfBoundsException("no such record is kept");
        }
        return history.read(history.tickRow, back);
    }

    public int stateOf(int back) throws IndexOutOfBoundsException {
        if (!history.has(back)) {
            throw new IndexOutOfBoundsException("no such record is kept");
        }
        return history.read(history.stateRow, back);
    }

    public int reasonOf(int back) throws IndexOutOfBoundsException {
        if (!history.has(back)) {
            throw new IndexOutOfBoundsException("no such record is kept");
        }
        return history.read(history.reasonRow, back);
    }

    // ---- what could happen

    public boolean couldBe(int state, int ticks) throws IllegalArgumentException {
        if (isOutside(state, OFF, LOCKOUT) || isOutside(ticks, 1, LONGEST_WALK)) {
            throw new IllegalArgumentException("state or ticks is out of range");
        }
        return isOn(walk(ahead, furnace, ticks), 1 << state);
    }

    public int reasonsAhead(int ticks) throws IllegalArgumentException {
        if (isOutside(ticks, 1, LONGEST_WALK)) {
            throw new IllegalArgumentException("ticks is out of range");
        }
        if (furnace.isLockedOut()) {
            return 0;
        }
        return walk(ahead, furnace, ticks) >> REASONS_SHIFT;
    }

    public int toPilot() {
        if (furnace.isPilotOpen()) {
            return 0;
        }
        Furnace trial = ahead.furnace;
        trial.copyFrom(furnace);
        for (int tick = 1; tick <= LONGEST_WAY_TO_PILOT; tick++) {
            trial.tick(HEAT | AIR_FLOWS | PRESSURE);
            if (trial.isPilotOpen()) {
                return tick;
            }
        }
        return NONE;
    }

    // ---- helpers

    private static boolean isOn(int bits, int bit) {
        return (bits & bit) != 0;
    }

    private static boolean isOutside(int value, int least, int greatest) {
        return value < least || value > greatest;
    }

    private void refuseUnlessOff() {
        if (furnace.state != OFF) {
            throw new IllegalStateException("the sequencer is not off");
        }
    }

    private void recordChange() {
        history.add(ticks, furnace.state, furnace.reason);
    }

    /** What can be found behind one of the next ticks, as bits: see REASONS_SHIFT. */
    private static int walk(Ahead level, Furnace from, int ticks) {
        if (level == null || ticks <= 0) {
            return 0;
        }
        int found = 0;
        int telling = tellingSignals(from.state);
        Furnace next = level.furnace;
        for (int way = 0; way <= ALL_SIGNALS; way++) {
            // Signals that the state does not heed would only repeat a way that is walked anyhow.
            if ((way & ~telling) == 0) {
                next.copyFrom(from);
                next.tick(way);
                found |= foundAt(next);
                // No tick leaves a lockout, so there is nothing new behind it.
                if (!next.isLockedOut()) {
                    found |= walk(level.next, next, ticks - 1);
                }
            }
        }
        return found;
    }

    private static int foundAt(Furnace furnace) {
        int found = 1 << furnace.state;
        if (furnace.isLockedOut()) {
            found |= 1 << (REASONS_SHIFT + furnace.reason);
        }
        return found;
    }

    /** The signals that can make a difference to a tick that begins in the state. */
    private static int tellingSignals(int state) {
        switch (state) {
            case OFF:
                return BOTH_LIGHTS | HEAT;
            case PURGE:
                return BOTH_LIGHTS | HEAT | AIR_FLOWS;
            case PILOT:
            case MAIN:
                return BOTH_LIGHTS | HEAT | AIR_FLOWS | PRESSURE;
            case RUN:
                return ALL_SIGNALS;
            default:
                return BOTH_LIGHTS;
        }
    }

    /** What the furnace is set to. */
    private static final class Settings {
        private int rate = 50;
        private int longestPurge = 60;
        private int longestPilot = 10;
        private int longestMain = 5;
        private int afterPurge = 15;
        private int ticksToLight = 2;
        private int ticksToNone = 3;
        private int ticksToCheck = 30;
        private int volume = 200;
        private int airStep = 20;
        private int fuelStep = 10;
    }

    /** An eye, which believes its signal only after some ticks in a row. */
    private static final class Eye {
        private boolean seesFlame;
        private int row;

        void copyFrom(Eye other) {
            seesFlame = other.seesFlame;
            row = other.row;
        }

        void look(boolean light, int ticksNeeded) {
            if (light == seesFlame) {
                row = 0;
                return;
            }
            row++;
            // The row can be longer than needed: the need can be set lower while it grows.
            if (row >= ticksNeeded) {
                seesFlame = light;
                row = 0;
            }
        }
    }

    /** The sequencer itself, without its records, so that it can be copied and tried out. */
    private static final class Furnace {
        private final Settings settings;
        private final Eye pilotEye = new Eye();
        private final Eye mainEye = new Eye();
        private int state;
        private int reason;
        private int time;
        private int air;
        private int fuel;
        private int purged;
        private int unlit;
        private int longestUnlit;

        Furnace(Settings settings) {
            this.settings = settings;
        }

        void copyFrom(Furnace other) {
            pilotEye.copyFrom(other.pilotEye);
            mainEye.copyFrom(other.mainEye);
            state = other.state;
            reason = other.reason;
            time = other.time;
            air = other.air;
            fuel = other.fuel;
            purged = other.purged;
            unlit = other.unlit;
            longestUnlit = other.longestUnlit;
        }

        boolean hasFlame() {
            return pilotEye.seesFlame || mainEye.seesFlame;
        }

        boolean isLockedOut() {
            return state == LOCKOUT;
        }

        boolean isPilotOpen() {
            return state == PILOT || state == MAIN;
        }

        boolean isMainOpen() {
            return state == MAIN || state == RUN;
        }

        /** Lets a tick go by and tells whether the state changed. */
        boolean tick(int signals) {
            boolean wasOpen = isPilotOpen() || isMainOpen();
            look(pilotEye, isOn(signals, PILOT_LIGHT));
            look(mainEye, isOn(signals, MAIN_LIGHT));
            movePositions();
            time++;
            boolean changed = sequence(signals);
            countUnlit(wasOpen);
            return changed;
        }

        private void look(Eye eye, boolean light) {
            eye.look(light, light ? settings.ticksToLight : settings.ticksToNone);
        }

        private void movePositions() {
            // Both goals are taken first: in a run each goes by the other's old position.
            int airGoal = airGoal();
            int fuelGoal = fuelGoal();
            air = moved(air, airGoal, settings.airStep);
            fuel = isMainOpen() ? moved(fuel, fuelGoal, settings.fuelStep) : fuelGoal;
        }

        private int airGoal() {
            switch (state) {
                case OFF:
                    return 0;
                case PURGE:
                    return FULL_AIR;
                case PILOT:
                case MAIN:
                    return LIGHTING_AIR;
                case RUN:
                    return Math.max(settings.rate, fuel);
                default:
                    return COOLING_AIR;
            }
        }

        private int fuelGoal() {
            switch (state) {
                case MAIN:
                    return LIGHTING_FUEL;
                case RUN:
                    return Math.min(settings.rate, air);
                default:
                    return 0;
            }
        }

        private static int moved(int position, int goal, int step) {
            if (position < goal) {
                return Math.min(position + step, goal);
            }
            return Math.max(position - step, goal);
        }

        private boolean sequence(int signals) {
            switch (state) {
                case OFF:
                    return sequenceOff(signals);
                case PURGE:
                    return sequencePurge(signals);
                case PILOT:
                case MAIN:
                    return sequenceLighting(signals);
                case RUN:
                    return sequenceRun(signals);
                case AFTER_PURGE:
                    return sequenceAfterPurge();
                default:
                    return false;
            }
        }

        private boolean sequenceOff(int signals) {
            if (hasFlame()) {
                return lockOut(STRAY_FLAME);
            }
            return isOn(signals, HEAT) && begin(PURGE, NO_REASON);
        }

        private boolean sequencePurge(int signals) {
            if (!isOn(signals, HEAT)) {
                return begin(OFF, NO_REASON);
            }
            if (hasFlame()) {
                return lockOut(STRAY_FLAME);
            }
            purged = isOn(signals, AIR_FLOWS) && air >= PURGING_AIR ? purged + air : 0;
            if (purged >= PURGED_VOLUMES * settings.volume) {
                return begin(PILOT, NO_REASON);
            }
            return time >= settings.longestPurge && lockOut(PURGE_TOO_LONG);
        }

        private boolean sequenceLighting(int signals) {
            if (!isOn(signals, AIR_FLOWS)) {
                return lockOut(NO_AIR);
            }
            if (!isOn(signals, PRESSURE)) {
                return lockOut(NO_PRESSURE);
            }
            if (!isOn(signals, HEAT)) {
                return begin(AFTER_PURGE, NO_REASON);
            }
            return state == PILOT ? lightPilot() : lightMain();
        }

        private boolean lightPilot() {
            if (pilotEye.seesFlame) {
                return begin(MAIN, NO_REASON);
            }
            return time >= settings.longestPilot && lockOut(NO_PILOT);
        }

        private boolean lightMain() {
            if (mainEye.seesFlame) {
                return begin(RUN, NO_REASON);
            }
            return time >= settings.longestMain && lockOut(NO_MAIN);
        }

        private boolean sequenceRun(int signals) {
            if (!isOn(signals, AIR_FLOWS)) {
                return lockOut(NO_AIR);
            }
            if (!isOn(signals, PRESSURE)) {
                return lockOut(NO_PRESSURE);
            }
            if (!mainEye.seesFlame) {
                return lockOut(FLAME_LOST);
            }
            if (isCheckDue() && !isOn(signals, CHECK_PASSED)) {
                return lockOut(CHECK_FAILED);
            }
            return !isOn(signals, HEAT) && begin(AFTER_PURGE, NO_REASON);
        }

        private boolean isCheckDue() {
            return settings.ticksToCheck > 0 && time % settings.ticksToCheck == 0;
        }

        private boolean sequenceAfterPurge() {
            if (time < settings.afterPurge) {
                return false;
            }
            return hasFlame() ? lockOut(STRAY_FLAME) : begin(OFF, NO_REASON);
        }

        private boolean lockOut(int newReason) {
            return begin(LOCKOUT, newReason);
        }

        /** Begins a state; always true, the answer of a tick that changed the state. */
        boolean begin(int newState, int newReason) {
            state = newState;
            reason = newReason;
            time = 0;
            purged = 0;
            // Told here once more, not asked: the calls of a tick go deep enough as it is.
            if (newState != MAIN && newState != RUN) {
                fuel = 0;
            }
            return true;
        }

        private void countUnlit(boolean wasOpen) {
            unlit = wasOpen && !hasFlame() ? unlit + 1 : 0;
            longestUnlit = Math.max(longestUnlit, unlit);
        }
    }

    /** One tick of a walk: a furnace to try it on, and the tick behind it, null behind the last. */
    private static final class Ahead {
        private final Furnace furnace;
        private final Ahead next;

        Ahead(Settings settings, Ahead next) {
            furnace = new Furnace(settings);
            this.next = next;
        }
    }

    /** The last records, in rings. */
    private static final class History {
        private final int[] tickRow = new int[KEPT_RECORDS];
        private final int[] stateRow = new int[KEPT_RECORDS];
        private final int[] reasonRow = new int[KEPT_RECORDS];
        private int added;
        private int kept;
        private int place;

        void add(int tick, int state, int reason) {
            if (place < 0 || place >= KEPT_RECORDS) {
                place = 0;
            }
            tickRow[place] = tick;
            stateRow[place] = state;
            reasonRow[place] = reason;
            place++;
            kept = Math.min(kept + 1, KEPT_RECORDS);
            added++;
        }

        boolean has(int back) {
            return back >= 0 && back < kept;
        }

        /** What a row says of a record that is kept. */
        int read(int[] row, int back) {
            int at = place - 1 - back;
            if (at < 0) {
                at += KEPT_RECORDS;
            }
            return at >= 0 && at < row.length ? row[at] : NONE;
        }
    }

    /** The ticks of the last resets, as many as can count at once. */
    private static final class Resets {
        // Before the first one they stand so far back that they never count.
        private int last = -RESET_WINDOW;
        private int second = -RESET_WINDOW;
        private int third = -RESET_WINDOW;

        void add(int tick) {
            third = second;
            second = last;
            last = tick;
        }

        int recent(int now) {
            return countOf(last, now) + countOf(second, now) + countOf(third, now);
        }

        private static int countOf(int tick, int now) {
            return now - tick < RESET_WINDOW ? 1 : 0;
        }
    }
}
