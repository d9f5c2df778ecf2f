/**
 * A heap of records and rows that stays: changes are kept by commits or undone, written behind in
 * a log of which a loss of power takes what was not yet safe, and what nobody can reach is swept.
 */
public final class KeepHeap {
    public static final int REFUSED = -1, FULL = -3;

    private static final int NOTHING = 0, RECORD = 1, ROW = 2;
    private static final int MOST_OBJECTS = 100, MOST_FIELDS = 8, MOST_ITEMS = 20, MOST_ROOTS = 12;
    private static final int MOST_WAITING = 8, RING = MOST_WAITING + 1;
    private static final int NO_NAME = 0;
    private static final int ENTRY_BYTES = 8, OBJECT_BYTES = 16, ROOT_BYTES = 6;
    private static final long NIL = 1L << 40, FIRST_OBJECT = NIL + 1, NONE = -NIL;

    private final State now;
    // The SAFE state stands at safeAt; behind it, round the ring, the states of those that wait.
    // The last of them all is always THE KEPT state.
    private final State[] ring = new State[RING];
    private final int[] ringBytes = new int[RING];
    private final Reach reach = new Reach();
    private int safeAt = 0;
    private int waiting = 0;
    private int logBytes = 0;

    public KeepHeap() {
        Slots noRoots = new Slots(RECORD, MOST_ROOTS);
        now = new State(noRoots);
        for (int k = 0; k < RING; k++) {
            ring[k] = new State(noRoots);
        }
    }

    public int make(boolean row) {
        for (int o = 0; o < MOST_OBJECTS; o++) {
            if (now.objects[o] == null) {
                now.objects[o] = row ? new Slots(ROW, MOST_ITEMS) : new Slots(RECORD, MOST_FIELDS);
                return o;
            }
        }
        return FULL;
    }

    public int set(int o, int name, int sort, int v) {
        long value = valueOf(sort, v);
        Slots record = own(o, RECORD);
        return value == NONE || record == null ? REFUSED : record.assign(name, value);
    }

    public long get(int o, int name) {
        Slots record = now.find(o, RECORD);
        return record == null ? NONE : record.named(name);
    }

    public int push(int o, int sort, int v) {
        long value = valueOf(sort, v);
        Slots row = own(o, ROW);
        return value == NONE || row == null ? REFUSED : row.append(NO_NAME, value);
    }

    public long pop(int o) {
        Slots row = own(o, ROW);
        return row == null ? NONE : row.takeLast();
    }

    public int put(int o, int k, int sort, int v) {
        long value = valueOf(sort, v);
        Slots row = own(o, ROW);
        if (value == NONE || row == null || !row.holds(k)) {
            return REFUSED;
        }
        row.values[k] = value;
        return 0;
    }

    public long item(int o, int k) {
        Slots row = now.find(o, ROW);
        return row == null || !row.holds(k) ? NONE : row.values[k];
    }

    public int root(int name, int sort, int v) {
        long value = valueOf(sort, v);
        return value == NONE ? REFUSED : ownRoots().assign(name, value);
    }

    public long rooted(int name) {
        return now.roots.named(name);
    }

    public int commit() {
        int bytes = ENTRY_BYTES + changedBytes();
        keepNow(bytes);
        return bytes;
    }

    public int undo() {
        int bytes = changedBytes();
        now.become(kept());
        return bytes;
    }

    public int sweep() {
        now.become(kept());
        int gone = reach.dropUnreached(now);
        if (gone > 0) {
            keepNow(ENTRY_BYTES);
        }
        return gone;
    }

    public int sync() {
        int waited = waiting;
        safeAt = ringIndex(waited);
        waiting = 0;
        return waited;
    }

    public int crash(int n) {
        if (n < 0) {
            return REFUSED;
        }
        int left = entriesWithin(n);
        for (int k = left + 1; k <= waiting; k++) {
            logBytes -= ringBytes[ringIndex(k)];
        }
        safeAt = ringIndex(left);
        waiting = 0;
        now.become(kept());
        return left;
    }

    public int kind(int o) {
        if (o < 0 || o >= MOST_OBJECTS) {
            return REFUSED;
        }
        Slots object = now.objects[o];
        return object == null ? NOTHING : object.form;
    }

    public int size(int o) {
        if (o < 0 || o >= MOST_OBJECTS) {
            return REFUSED;
        }
        Slots object = now.objects[o];
        return object == null ? REFUSED : object.used;
    }

    public int count(int what) {
        switch (what) {
            case 0:
                return now.objectsThere();
            case 1:
                return now.roots.used;
            case 2:
                return waiting;
            case 3:
                return logBytes;
            default:
                return REFUSED;
        }
    }

    /** The long of a VALUE, NONE if there is no such VALUE. */
    private long valueOf(int sort, int v) {
        switch (sort) {
            case 0:
                return NIL;
            case 1:
                return v;
            case 2:
                return now.has(v) ? FIRST_OBJECT + v : NONE;
            default:
                return NONE;
        }
    }

    private int ringIndex(int behindSafe) {
        return (safeAt + behindSafe) % RING;
    }

    private State kept() {
        return ring[ringIndex(waiting)];
    }

    /**
     * Object o of that form as one that may be changed, null if there is none: states share the
     * slots that are the same in them, so what is KEPT is never changed in place.
     */
    private Slots own(int o, int form) {
        Slots object = now.find(o, form);
        if (object != null && object == kept().objects[o]) {
            object = object.twin();
            now.objects[o] = object;
        }
        return object;
    }

    private Slots ownRoots() {
        if (now.roots == kept().roots) {
            now.roots = now.roots.twin();
        }
        return now.roots;
    }

    private int changedBytes() {
        State before = kept();
        int changed = 0;
        for (int o = 0; o < MOST_OBJECTS; o++) {
            Slots object = now.objects[o];
            if (object != null && !object.sameAs(before.objects[o])) {
                changed++;
            }
        }
        return OBJECT_BYTES * changed + ROOT_BYTES * now.roots.namesChangedFrom(before.roots);
    }

    private void keepNow(int bytes) {
        if (waiting == MOST_WAITING) {
            safeAt = ringIndex(1);
        } else {
            waiting++;
        }
        int last = ringIndex(waiting);
        ring[last].become(now);
        ringBytes[last] = bytes;
        logBytes += bytes;
    }

    private int entriesWithin(int n) {
        int room = n;
        for (int k = 1; k <= waiting; k++) {
            int bytes = ringBytes[ringIndex(k)];
            if (bytes > room) {
                return k - 1;
            }
            room -= bytes;
        }
        return waiting;
    }

    /** The slots of a RECORD, of a ROW (all named NO_NAME), or of the ROOTS (held as a RECORD). */
    private static final class Slots {
        final int form;
        final int[] names;
        final long[] values;
        int used = 0;

        Slots(int form, int room) {
            this.form = form;
            this.names = new int[room];
            this.values = new long[room];
        }

        Slots twin() {
            Slots other = new Slots(form, values.length);
            System.arraycopy(names, 0, other.names, 0, used);
            System.arraycopy(values, 0, other.values, 0, used);
            other.used = used;
            return other;
        }

        boolean holds(int k) {
            return k >= 0 && k < used;
        }

        /** Where the name stands; used if it is not there. */
        int placeOf(int name) {
            int k = 0;
            while (k < used && names[k] != name) {
                k++;
            }
            return k;
        }

        long named(int name) {
            int k = placeOf(name);
            return k < used ? values[k] : NIL;
        }

        int assign(int name, long value) {
            int k = placeOf(name);
            if (value == NIL) {
                removeAt(k);
                return used;
            }
            if (k == used) {
                return append(name, value);
            }
            values[k] = value;
            return used;
        }

        int append(int name, long value) {
            if (used >= values.length) {
                return FULL;
            }
            names[used] = name;
            values[used] = value;
            used++;
            return used;
        }

        /** The slots behind k move up; nothing is done if slot k is not used. */
        void removeAt(int k) {
            if (!holds(k)) {
                return;
            }
            used--;
            for (int at = k; at < used; at++) {
                names[at] = names[at + 1];
                values[at] = values[at + 1];
            }
        }

        long takeLast() {
            if (used == 0) {
                return NONE;
            }
            used--;
            return values[used];
        }

        boolean sameAs(Slots other) {
            if (other == null || other.form != form || other.used != used) {
                return false;
            }
            for (int k = 0; k < used; k++) {
                if (other.names[k] != names[k] || other.values[k] != values[k]) {
                    return false;
                }
            }
            return true;
        }

        /** How many names have another value than before, are new or gone. */
        int namesChangedFrom(Slots before) {
            int changed = 0;
            for (int k = 0; k < used; k++) {
                if (before.named(names[k]) != values[k]) {
                    changed++;
                }
            }
            for (int k = 0; k < before.used; k++) {
                if (named(before.names[k]) == NIL) {
                    changed++;
                }
            }
            return changed;
        }
    }

    /** All OBJECTS, null where there is none, and the ROOTS. */
    private static final class State {
        final Slots[] objects = new Slots[MOST_OBJECTS];
        Slots roots;

        State(Slots roots) {
            this.roots = roots;
        }

        void become(State other) {
            for (int o = 0; o < MOST_OBJECTS; o++) {
                objects[o] = other.objects[o];
            }
            roots = other.roots;
        }

        boolean has(int o) {
            return o >= 0 && o < MOST_OBJECTS && objects[o] != null;
        }

        /** Object o if it is there and of that form, else null. */
        Slots find(int o, int form) {
            return has(o) && objects[o].form == form ? objects[o] : null;
        }

        int objectsThere() {
            int there = 0;
            for (int o = 0; o < MOST_OBJECTS; o++) {
                if (objects[o] != null) {
                    there++;
                }
            }
            return there;
        }
    }

    /** Walks from the ROOTS; its rows are made once, since a run never gives room back. */
    private static final class Reach {
        final boolean[] reached = new boolean[MOST_OBJECTS];
        final int[] queue = new int[MOST_OBJECTS];
        int found = 0;

        int dropUnreached(State state) {
            walk(state);
            int gone = 0;
            for (int o = 0; o < MOST_OBJECTS; o++) {
                if (state.objects[o] != null && !reached[o]) {
                    state.objects[o] = null;
                    gone++;
                }
            }
            return gone;
        }

        void walk(State state) {
            found = 0;
            for (int o = 0; o < MOST_OBJECTS; o++) {
                reached[o] = false;
            }
            enqueueAll(state.roots);
            for (int k = 0; k < found && k < MOST_OBJECTS; k++) {
                enqueueAll(state.objects[queue[k]]);
            }
        }

        void enqueueAll(Slots slots) {
            if (slots == null) {
                return;
            }
            for (int k = 0; k < slots.used; k++) {
                long object = slots.values[k] - FIRST_OBJECT;
                if (object >= 0 && object < MOST_OBJECTS) {
                    enqueue((int) object);
                }
            }
        }

        void enqueue(int o) {
            if (!reached[o]) {
                reached[o] = true;
                queue[found] = o;
                found++;
            }
        }
    }
}
