/** What the tests of single sentences share: the names of the SORTS and answers, and the counting. */
abstract class HeapTest {
    static final int NIL = 0, INT = 1, OBJECT = 2;
    static final int REFUSED = -1, FULL = -3;
    static final long NO = Answers.NONE, EMPTY = Answers.NIL;
    static final int LEAST = Integer.MIN_VALUE, GREATEST = Integer.MAX_VALUE;
    /** Numbers that no OBJECT can have. */
    static final int[] NO_NUMBERS = {LEAST, LEAST + 1, -100, -2, -1, 100, 101, 127, 128, 256, GREATEST};
    /** SORTS that no VALUE has. */
    static final int[] NO_SORTS = {LEAST, -2, -1, 3, 4, 256, 258, GREATEST};

    private static final Answers answers = new Answers();

    static KeepHeap begin(String part) {
        answers.begin(part);
        return new KeepHeap();
    }

    static void due(String call, long got, long want) {
        answers.due(call, got, want);
    }

    static void finish() {
        answers.finish();
    }

    static long object(int o) {
        return Answers.object(o);
    }

    /** A RECORD with the FIELDS 1 to fields, each an int, ten times its NAME. */
    static int makeRecord(KeepHeap x, int fields) {
        int o = x.make(false);
        for (int name = 1; name <= fields; name++) {
            x.set(o, name, INT, 10 * name);
        }
        return o;
    }

    /** A ROW of the ints 0, 10, 20 and so on. */
    static int makeRow(KeepHeap x, int items) {
        int o = x.make(true);
        for (int k = 0; k < items; k++) {
            x.push(o, INT, 10 * k);
        }
        return o;
    }

    /** The ROOTS 1 to names, each an int, ten times its NAME. */
    static void makeRoots(KeepHeap x, int names) {
        for (int name = 1; name <= names; name++) {
            x.root(name, INT, 10 * name);
        }
    }

    static void makeMany(KeepHeap x, int objects, boolean row) {
        for (int k = 0; k < objects; k++) {
            x.make(row);
        }
    }

    static void commitMany(KeepHeap x, int commits) {
        for (int k = 0; k < commits; k++) {
            x.commit();
        }
    }

    /** Nothing is there that is not KEPT: for a test that committed before a call that does nothing. */
    static void dueUnchanged(KeepHeap x) {
        due("nothing is done: undo", x.undo(), 0);
    }

    /** The whole of a new object, but for its numbers of waiting ones and bytes. */
    static void dueNothingThere(KeepHeap x) {
        due("objects", x.count(0), 0);
        due("roots", x.count(1), 0);
        due("kind of the first", x.kind(0), 0);
        due("kind of the last", x.kind(99), 0);
        due("rooted", x.rooted(1), EMPTY);
    }
}
