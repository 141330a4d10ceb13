import java.util.ArrayList;
import java.util.Arrays;

/** A courtyard whose doorbells make a choir. What each call does is told in ../shared/DOC.md. */
public final class DoorbellChoir {
    private static final int MOST_TENANTS = 16;
    private static final int MOST_HABITS = 8;
    private static final int MOST_WAITING = 60;
    private static final int MOST_HOPS = 8;
    private static final int MOST_KEPT = 200;
    private static final int MOST_PASSED = 1000;

    private static final int NOTES = 88;
    private static final int NOTES_OF_OCTAVE = 12;
    private static final int MOST_PATIENCE = 9;
    private static final int HOURS = 24;
    private static final int LEAST_TICKS_OF_HOUR = 5;
    private static final int MOST_TICKS_OF_HOUR = 500;
    private static final int LEAST_DELAY = 1;
    private static final int MOST_DELAY = 99;
    private static final int MOST_SHIFT = 12;

    private static final int VISITOR = -1;
    private static final int NONE = -1;

    private static final int BY_VISITOR = 0;
    private static final int BY_TENANT = 1;
    private static final int BY_BOTH = 2;

    private static final int SING = 0;
    private static final int IGNORE = 1;
    private static final int RING_AIM = 2;
    private static final int RING_BESIDE = 3;
    private static final int SING_AND_RING_AIM = 4;
    private static final int RING_ALL = 5;

    private static final int FOLLOWED = 0;
    private static final int UNANSWERED = 1;
    private static final int LOST = 2;

    private static final int COUNT_PARTS = 9;
    private static final int TENANT_PARTS = 6;
    private static final int HABIT_PARTS = 9;
    private static final int RING_PARTS = 5;
    private static final int NOTE_PARTS = 6;
    private static final int SOUND_PARTS = 4;

    /** The good intervals, as the sum of their powers of 2. */
    private static final int GOOD_INTERVALS =
        1 | (1 << 3) | (1 << 4) | (1 << 5) | (1 << 7) | (1 << 8) | (1 << 9);

    /** How many bits a tenant's number takes on the way of a ring. */
    private static final int WAY_BITS = 4;
    private static final int WAY_MASK = 15;

    private static final long DIGEST_START = 439;
    private static final long DIGEST_FACTOR = 31;

    private final ArrayList<Tenant> tenants;
    private final WaitingRings waitingRings;
    private final Songs songs;
    private final Ring visitorRing;
    private int ticksOfHour;
    private int now;
    private int heard;
    private int lost;
    private int mostHops;

    public DoorbellChoir() {
        tenants = new ArrayList<Tenant>();
        waitingRings = new WaitingRings();
        songs = new Songs();
        visitorRing = new Ring();
        ticksOfHour = 60;
    }

    // ---- tenants

    public int moveIn(int note, int patience)
        throws IllegalArgumentException, IllegalStateException {
        if (isOutside(note, 0, NOTES - 1) || isOutside(patience, 0, MOST_PATIENCE)) {
            throw new IllegalArgumentException();
        }
        if (tenants.size() >= MOST_TENANTS) {
            throw new IllegalStateException();
        }
        int number = tenants.size();
        tenants.add(new Tenant(number, note, patience));
        return number;
    }

    public int setHour(int ticks) throws IllegalArgumentException {
        if (isOutside(ticks, LEAST_TICKS_OF_HOUR, MOST_TICKS_OF_HOUR)) {
            throw new IllegalArgumentException();
        }
        int before = ticksOfHour;
        ticksOfHour = ticks;
        return before;
    }

    public int addHabit(int tenant) throws IndexOutOfBoundsException, IllegalStateException {
        Tenant owner = tenantAt(tenant);
        if (owner.habits.size() >= MOST_HABITS) {
            throw new IllegalStateException();
        }
        owner.habits.add(new Habit(tenant));
        return owner.habits.size();
    }

    public int setWhen(int tenant, int habit, int first, int last, int sort, int patience)
        throws IndexOutOfBoundsException, IllegalArgumentException {
        Habit changed = tenantAt(tenant).habitAt(habit);
        if (isOutside(first, 0, HOURS - 1) || isOutside(last, 0, HOURS - 1)
            || isOutside(sort, BY_VISITOR, BY_BOTH) || isOutside(patience, 0, MOST_PATIENCE)) {
            throw new IllegalArgumentException();
        }
        int before = changed.sort;
        changed.first = first;
        changed.last = last;
        changed.sort = sort;
        changed.leastPatience = patience;
        return before;
    }

    public int setWhat(int tenant, int habit, int action, int aim, int delay, int shift)
        throws IndexOutOfBoundsException, IllegalArgumentException {
        Habit changed = tenantAt(tenant).habitAt(habit);
        if (isOutside(aim, 0, tenants.size() - 1)) {
            throw new IndexOutOfBoundsException();
        }
        if (isOutside(action, SING, RING_ALL) || isOutside(delay, LEAST_DELAY, MOST_DELAY)
            || isOutside(shift, -MOST_SHIFT, MOST_SHIFT)) {
            throw new IllegalArgumentException();
        }
        int before = changed.action;
        changed.action = action;
        changed.aim = aim;
        changed.delay = delay;
        changed.shift = shift;
        return before;
    }

    public int dropHabit(int tenant, int habit) throws IndexOutOfBoundsException {
        Tenant owner = tenantAt(tenant);
        if (isOutside(habit, 0, owner.habits.size() - 1)) {
            throw new IndexOutOfBoundsException();
        }
        owner.habits.remove(habit);
        return owner.habits.size();
    }

    public int tenant(int tenant, int what) throws IndexOutOfBoundsException {
        Tenant asked = tenantAt(tenant);
        if (isOutside(what, 0, TENANT_PARTS - 1)) {
            throw new IndexOutOfBoundsException();
        }
        return asked.part(what);
    }

    public int habit(int tenant, int habit, int what) throws IndexOutOfBoundsException {
        Habit asked = tenantAt(tenant).habitAt(habit);
        if (isOutside(what, 0, HABIT_PARTS - 1)) {
            throw new IndexOutOfBoundsException();
        }
        return asked.part(what);
    }

    // ---- rings

    public int ring(int tenant) throws IndexOutOfBoundsException {
        Tenant rung = tenantAt(tenant);
        visitorRing.startAt(now, rung.number);
        return doRing(visitorRing);
    }

    public int pass(int ticks) throws IllegalArgumentException {
        if (isOutside(ticks, 1, MOST_PASSED)) {
            throw new IllegalArgumentException();
        }
        int heardBefore = heard;
        for (int i = 0; i < ticks; i++) {
            doNextTick();
        }
        return heard - heardBefore;
    }

    public int count(int what) throws IndexOutOfBoundsException {
        if (isOutside(what, 0, COUNT_PARTS - 1)) {
            throw new IndexOutOfBoundsException();
        }
        return part(what);
    }

    public int waiting(int index, int what) throws IndexOutOfBoundsException {
        Ring asked = waitingRings.at(index);
        if (isOutside(what, 0, RING_PARTS - 1)) {
            throw new IndexOutOfBoundsException();
        }
        return asked.part(what);
    }

    public int fits(int tenant, int sort, int hour)
        throws IndexOutOfBoundsException, IllegalArgumentException {
        Tenant asked = tenantAt(tenant);
        if (isOutside(sort, BY_VISITOR, BY_TENANT) || isOutside(hour, 0, HOURS - 1)) {
            throw new IllegalArgumentException();
        }
        return asked.fittingHabit(sort, hour);
    }

    // ---- songs

    public int sung(int index, int what) throws IndexOutOfBoundsException {
        Note asked = songs.at(index);
        if (isOutside(what, 0, NOTE_PARTS - 1)) {
            throw new IndexOutOfBoundsException();
        }
        return asked.part(what);
    }

    public int through(int index, int hop) throws IndexOutOfBoundsException {
        Note asked = songs.at(index);
        if (isOutside(hop, 0, asked.hops)) {
            throw new IndexOutOfBoundsException();
        }
        return tenantOnWay(asked.way, hop);
    }

    public int sounds(int tick, int what)
        throws IllegalArgumentException, IndexOutOfBoundsException {
        if (tick < 0) {
            throw new IllegalArgumentException();
        }
        if (isOutside(what, 0, SOUND_PARTS - 1)) {
            throw new IndexOutOfBoundsException();
        }
        switch (what) {
            case 0: return songs.soundingAt(tick);
            case 1: return songs.leastNoteAt(tick);
            case 2: return songs.greatestNoteAt(tick);
            default: return songs.harmonyAt(tick);
        }
    }

    public int best() {
        return songs.bestTick();
    }

    public int emptySongs() {
        return songs.forgetAll();
    }

    // ---- who reaches whom

    public int reach(int tenant) throws IndexOutOfBoundsException {
        int reached = rungBy(tenantAt(tenant));
        // More hops reach nobody else: a shortest way, also one back, rings at no tenant twice.
        for (int hop = 2; hop <= MOST_TENANTS; hop++) {
            reached |= rungByAll(reached);
        }
        return reached;
    }

    public int hops(int a, int b) throws IndexOutOfBoundsException {
        Tenant from = tenantAt(a);
        Tenant to = tenantAt(b);
        int rung = rungBy(from);
        for (int hop = 1; hop <= MOST_TENANTS; hop++) {
            if (contains(rung, to.number)) {
                return hop;
            }
            rung = rungByAll(rung);
        }
        return NONE;
    }

    public double patience() {
        int size = tenants.size();
        if (size == 0) {
            return 0.0;
        }
        int sum = 0;
        for (int i = 0; i < size; i++) {
            sum += tenants.get(i).patience;
        }
        return (double) sum / size;
    }

    public long digest() {
        long d = DIGEST_START;
        for (int what = 0; what < COUNT_PARTS; what++) {
            d = digestWith(d, part(what));
        }
        for (int i = 0; i < tenants.size(); i++) {
            d = tenants.get(i).addTo(d);
        }
        d = waitingRings.addTo(d);
        return songs.addTo(d);
    }

    // ---- what the calls are made of

    private static boolean isOutside(int x, int least, int most) {
        return x < least || x > most;
    }

    private static boolean contains(int set, int member) {
        return ((set >> member) & 1) == 1;
    }

    private static int tenantOnWay(long way, int hop) {
        return ((int) (way >> (hop * WAY_BITS))) & WAY_MASK;
    }

    private static long digestWith(long d, int x) {
        return d * DIGEST_FACTOR + x;
    }

    private Tenant tenantAt(int number) {
        if (isOutside(number, 0, tenants.size() - 1)) {
            throw new IndexOutOfBoundsException();
        }
        return tenants.get(number);
    }

    private int part(int what) {
        switch (what) {
            case 0: return now;
            case 1: return hourNow();
            case 2: return tenants.size();
            case 3: return waitingRings.rings.size();
            case 4: return heard;
            case 5: return lost;
            case 6: return songs.counted;
            case 7: return mostHops;
            default: return ticksOfHour;
        }
    }

    private int hourNow() {
        return ticksOfHour > 0 ? now / ticksOfHour % HOURS : 0;
    }

    private boolean hourBegins() {
        return ticksOfHour > 0 && now % ticksOfHour == 0;
    }

    private void doNextTick() {
        now++;
        if (hourBegins()) {
            growPatience();
        }
        for (int i = 0; i < MOST_WAITING; i++) {
            Ring ring = waitingRings.takeDue(now);
            if (ring == null) {
                break;
            }
            doRing(ring);
            // Only now: until here its numbers are read for the rings that come of it.
            waitingRings.giveBack(ring);
        }
    }

    private void growPatience() {
        for (int i = 0; i < tenants.size(); i++) {
            Tenant tenant = tenants.get(i);
            if (tenant.patience < tenant.greatestPatience) {
                tenant.patience++;
            }
        }
    }

    private int doRing(Ring ring) {
        Tenant tenant = tenantAt(ring.at);
        if (tenant.lastHeard == now) {
            lost++;
            return LOST;
        }
        tenant.lastHeard = now;
        tenant.heard++;
        heard++;
        mostHops = Math.max(mostHops, ring.hops);
        int fitting = tenant.fittingHabit(ring.sort(), hourNow());
        if (fitting != NONE) {
            follow(tenant.habitAt(fitting), tenant, ring);
        }
        if (tenant.patience > 0) {
            tenant.patience--;
        }
        return fitting == NONE ? UNANSWERED : FOLLOWED;
    }

    private void follow(Habit habit, Tenant tenant, Ring ring) {
        habit.followed++;
        if (habit.action == SING || habit.action == SING_AND_RING_AIM) {
            tenant.sung++;
            songs.add(Math.floorMod(tenant.note + ring.shift, NOTES), habit.delay, ring);
        }
        if (ring.hops < MOST_HOPS) {
            ringOn(habit, tenant, ring);
        }
    }

    private void ringOn(Habit habit, Tenant tenant, Ring ring) {
        int aims = rungByHabit(habit, tenant.number);
        for (int at = 0; at < tenants.size(); at++) {
            if (contains(aims, at)
                && !waitingRings.add(ring, now + habit.delay, at, ring.shift + habit.shift)) {
                lost++;
            }
        }
    }

    /** The set of tenants at whom this tenant rings by this habit. */
    private int rungByHabit(Habit habit, int tenant) {
        int all = (1 << tenants.size()) - 1;
        int self = 1 << tenant;
        switch (habit.action) {
            case RING_AIM:
            case SING_AND_RING_AIM:
                return 1 << habit.aim;
            case RING_BESIDE:
                return ((self >> 1) | (self << 1)) & all;
            case RING_ALL:
                return all & ~self;
            default:
                return 0;
        }
    }

    /** The set of tenants at whom this tenant can ring by any of its habits. */
    private int rungBy(Tenant tenant) {
        int set = 0;
        for (int i = 0; i < tenant.habits.size(); i++) {
            set |= rungByHabit(tenant.habits.get(i), tenant.number);
        }
        return set;
    }

    /** The set of tenants at whom any tenant of this set can ring. */
    private int rungByAll(int set) {
        int rung = 0;
        for (int i = 0; i < tenants.size(); i++) {
            if (contains(set, i)) {
                rung |= rungBy(tenants.get(i));
            }
        }
        return rung;
    }

    private static final class Habit {
        int first;
        int last = HOURS - 1;
        int sort = BY_BOTH;
        int leastPatience;
        int action = IGNORE;
        int aim;
        int delay = LEAST_DELAY;
        int shift;
        int followed;

        Habit(int tenant) {
            aim = tenant;
        }

        boolean holdsAt(int hour) {
            if (first <= last) {
                return first <= hour && hour <= last;
            }
            return first <= hour || hour <= last;
        }

        boolean isFor(int ringSort) {
            return sort == BY_BOTH || sort == ringSort;
        }

        int part(int what) {
            switch (what) {
                case 0: return first;
                case 1: return last;
                case 2: return sort;
                case 3: return leastPatience;
                case 4: return action;
                case 5: return aim;
                case 6: return delay;
                case 7: return shift;
                default: return followed;
            }
        }

        long addTo(long d) {
            for (int what = 0; what < HABIT_PARTS; what++) {
                d = digestWith(d, part(what));
            }
            return d;
        }
    }

    private static final class Tenant {
        final int number;
        final int note;
        final int greatestPatience;
        final ArrayList<Habit> habits = new ArrayList<Habit>();
        int patience;
        int heard;
        int sung;
        int lastHeard = NONE;

        Tenant(int number, int note, int greatestPatience) {
            this.number = number;
            this.note = note;
            this.greatestPatience = greatestPatience;
            patience = greatestPatience;
        }

        Habit habitAt(int index) {
            if (isOutside(index, 0, habits.size() - 1)) {
                throw new IndexOutOfBoundsException();
            }
            return habits.get(index);
        }

        int fittingHabit(int ringSort, int hour) {
            for (int i = 0; i < habits.size(); i++) {
                Habit habit = habits.get(i);
                if (habit.holdsAt(hour) && habit.isFor(ringSort)
                    && patience >= habit.leastPatience) {
                    return i;
                }
            }
            return NONE;
        }

        int part(int what) {
            switch (what) {
                case 0: return note;
                case 1: return greatestPatience;
                case 2: return patience;
                case 3: return habits.size();
                case 4: return heard;
                default: return sung;
            }
        }

        long addTo(long d) {
            for (int what = 0; what < TENANT_PARTS; what++) {
                d = digestWith(d, part(what));
            }
            for (int i = 0; i < habits.size(); i++) {
                d = habits.get(i).addTo(d);
            }
            return d;
        }
    }

    private static final class Ring {
        int tick;
        int at;
        int by;
        int shift;
        int hops;
        /** The tenants through whom it came, the first one in the lowest bits; the last is at. */
        long way;

        void startAt(int tick, int at) {
            this.tick = tick;
            this.at = at;
            by = VISITOR;
            shift = 0;
            hops = 0;
            way = at;
        }

        void goOn(Ring before, int tick, int at, int shift) {
            this.tick = tick;
            this.at = at;
            this.shift = shift;
            by = before.at;
            hops = before.hops + 1;
            way = before.way | ((long) at << (hops * WAY_BITS));
        }

        int sort() {
            return by == VISITOR ? BY_VISITOR : BY_TENANT;
        }

        boolean isLaterThan(int otherTick, int otherAt) {
            return tick > otherTick || (tick == otherTick && at > otherAt);
        }

        int part(int what) {
            switch (what) {
                case 0: return tick;
                case 1: return at;
                case 2: return by;
                case 3: return shift;
                default: return hops;
            }
        }
    }

    private static final class WaitingRings {
        final ArrayList<Ring> rings = new ArrayList<Ring>();
        /** Rings that are over are used again, so that a long time makes no more than 61. */
        final ArrayList<Ring> spare = new ArrayList<Ring>();

        Ring at(int index) {
            if (isOutside(index, 0, rings.size() - 1)) {
                throw new IndexOutOfBoundsException();
            }
            return rings.get(index);
        }

        /** Takes out the first ring if this is its tick; null if it is not. */
        Ring takeDue(int tick) {
            if (rings.isEmpty() || rings.get(0).tick != tick) {
                return null;
            }
            return rings.remove(0);
        }

        void giveBack(Ring ring) {
            spare.add(ring);
        }

        /** Lets a ring wait that comes of another one; false if there is no room for it. */
        boolean add(Ring before, int tick, int at, int shift) {
            if (rings.size() >= MOST_WAITING) {
                return false;
            }
            Ring ring = spare.isEmpty() ? new Ring() : spare.remove(spare.size() - 1);
            ring.goOn(before, tick, at, shift);
            int place = rings.size();
            while (place > 0 && rings.get(place - 1).isLaterThan(tick, at)) {
                place--;
            }
            rings.add(place, ring);
            return true;
        }

        long addTo(long d) {
            for (int i = 0; i < rings.size(); i++) {
                for (int what = 0; what < RING_PARTS; what++) {
                    d = digestWith(d, rings.get(i).part(what));
                }
            }
            return d;
        }
    }

    private static final class Note {
        int tick;
        int length;
        int note;
        int singer;
        int hops;
        int by;
        long way;

        boolean soundsAt(int other) {
            return other >= tick && other - tick < length;
        }

        int part(int what) {
            switch (what) {
                case 0: return tick;
                case 1: return length;
                case 2: return note;
                case 3: return singer;
                case 4: return hops;
                default: return by;
            }
        }
    }

    private static final class Songs {
        /** The first of these are the kept ones; the others are from before an emptying. */
        final ArrayList<Note> notes = new ArrayList<Note>();
        final int[] steps = new int[NOTES_OF_OCTAVE];
        int kept;
        int counted;

        Note at(int index) {
            if (isOutside(index, 0, kept - 1) || index >= notes.size()) {
                throw new IndexOutOfBoundsException();
            }
            return notes.get(index);
        }

        void add(int note, int length, Ring ring) {
            counted++;
            if (kept >= MOST_KEPT) {
                return;
            }
            if (kept >= notes.size()) {
                notes.add(new Note());
            }
            kept++;
            Note sung = at(kept - 1);
            sung.tick = ring.tick;
            sung.length = length;
            sung.note = note;
            sung.singer = ring.at;
            sung.hops = ring.hops;
            sung.by = ring.by;
            sung.way = ring.way;
        }

        int forgetAll() {
            int before = kept;
            kept = 0;
            counted = 0;
            return before;
        }

        int soundingAt(int tick) {
            int sounding = 0;
            for (int i = 0; i < kept; i++) {
                if (at(i).soundsAt(tick)) {
                    sounding++;
                }
            }
            return sounding;
        }

        int leastNoteAt(int tick) {
            int least = NONE;
            for (int i = 0; i < kept; i++) {
                Note note = at(i);
                if (note.soundsAt(tick) && (least == NONE || note.note < least)) {
                    least = note.note;
                }
            }
            return least;
        }

        int greatestNoteAt(int tick) {
            int greatest = NONE;
            for (int i = 0; i < kept; i++) {
                Note note = at(i);
                if (note.soundsAt(tick) && note.note > greatest) {
                    greatest = note.note;
                }
            }
            return greatest;
        }

        /**
         * The pairs are counted by the steps of the octave on which their notes are: that is far
         * less than all pairs. It may be so because an interval and the rest of it to 12 are both
         * good, or neither is, so that it does not matter which of the two notes is the higher one.
         */
        int harmonyAt(int tick) {
            Arrays.fill(steps, 0);
            for (int i = 0; i < kept; i++) {
                Note note = at(i);
                if (note.soundsAt(tick)) {
                    steps[Math.floorMod(note.note, NOTES_OF_OCTAVE)]++;
                }
            }
            int harmony = 0;
            for (int low = 0; low < NOTES_OF_OCTAVE; low++) {
                harmony += steps[low] * (steps[low] - 1) / 2;
                for (int high = low + 1; high < NOTES_OF_OCTAVE; high++) {
                    int pairs = steps[low] * steps[high];
                    harmony += contains(GOOD_INTERVALS, high - low) ? pairs : -pairs;
                }
            }
            return harmony;
        }

        /** The notes are kept in the order of their ticks: so the first one found is the first. */
        int bestTick() {
            int best = NONE;
            int bestHarmony = 0;
            for (int i = 0; i < kept; i++) {
                int tick = at(i).tick;
                int harmony = harmonyAt(tick);
                if (best == NONE || harmony > bestHarmony) {
                    best = tick;
                    bestHarmony = harmony;
                }
            }
            return best;
        }

        long addTo(long d) {
            for (int i = 0; i < kept; i++) {
                for (int what = 0; what < NOTE_PARTS; what++) {
                    d = digestWith(d, at(i).part(what));
                }
            }
            return d;
        }
    }
}
