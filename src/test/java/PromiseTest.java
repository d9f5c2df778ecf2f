/**
 * Each promise of the document by itself, in ordinary use and with wrong inputs; the boundary cases,
 * sentence by sentence, are in SlotBoundaryTest and LogBoundaryTest.
 */
public final class PromiseTest extends HeapTest {
    public static void main(String[] args) {
        newObject();
        make();
        makeTakesTheLeastFree();
        set();
        get();
        push();
        pop();
        put();
        item();
        root();
        rooted();
        commitOfObjects();
        commitSeesTheOrderOfFields();
        commitSeesRowsWhole();
        commitOfRoots();
        undo();
        undoAfterSync();
        sweep();
        sweepFollowsFieldsAndCircles();
        sweepUndoesFirst();
        sync();
        crash();
        crashLosesWhatIsNotKept();
        keptStatesStayApart();
        kind();
        size();
        count();
        countOfBytes();
        exampleOfTheReadme();
        finish();
    }

    private static void newObject() {
        KeepHeap x = begin("1 a new object");
        for (int what = 0; what < 4; what++) {
            due("count " + what, x.count(what), 0);
        }
        for (int o = 0; o < 100; o++) {
            due("kind " + o, x.kind(o), 0);
        }
        due("rooted", x.rooted(0), EMPTY);
        due("undo", x.undo(), 0);
        due("sync", x.sync(), 0);
        due("crash", x.crash(1000), 0);
        due("count of bytes", x.count(3), 0);
    }

    private static void make() {
        KeepHeap x = begin("2 make");
        for (int o = 0; o < 100; o++) {
            due("make " + o, x.make(o % 3 == 0), o);
            due("kind " + o, x.kind(o), o % 3 == 0 ? 2 : 1);
            due("size " + o, x.size(o), 0);
        }
        due("make a row with 100", x.make(true), FULL);
        due("make a record with 100", x.make(false), FULL);
        due("count", x.count(0), 100);
        due("undo", x.undo(), 1600);
        due("make after undo", x.make(true), 0);
    }

    private static void makeTakesTheLeastFree() {
        KeepHeap x = begin("2 make, the least number");
        for (int o = 0; o < 6; o++) {
            x.make(true);
            x.push(o, INT, 50 + o);
        }
        x.root(1, OBJECT, 0);
        x.root(2, OBJECT, 3);
        x.commit();
        due("sweep", x.sweep(), 4);
        due("first", x.make(false), 1);
        due("second", x.make(true), 2);
        due("third", x.make(false), 4);
        due("a new one has no slots", x.size(2), 0);
        due("fourth", x.make(false), 5);
        due("fifth", x.make(false), 6);
    }

    private static void set() {
        KeepHeap x = begin("3 set");
        x.make(false);
        due("a new field", x.set(0, 7, INT, -5), 1);
        due("a second one", x.set(0, -7, OBJECT, 0), 2);
        due("the first again", x.set(0, 7, INT, 6), 2);
        due("get 7", x.get(0, 7), 6);
        due("get -7", x.get(0, -7), object(0));
        due("nil without", x.set(0, 9, NIL, 3), 2);
        due("nil takes away", x.set(0, 7, NIL, 3), 1);
        due("get 7 without", x.get(0, 7), EMPTY);
        due("get -7 still", x.get(0, -7), object(0));
        due("nil again", x.set(0, 7, NIL, 3), 1);
        due("extreme name", x.set(0, Integer.MIN_VALUE, INT, Integer.MIN_VALUE), 2);
        due("extreme get", x.get(0, Integer.MIN_VALUE), Integer.MIN_VALUE);
        due("extreme name", x.set(0, Integer.MAX_VALUE, INT, Integer.MAX_VALUE), 3);
        due("extreme get", x.get(0, Integer.MAX_VALUE), Integer.MAX_VALUE);
        due("size", x.size(0), 3);
    }

    private static void get() {
        KeepHeap x = begin("4 get");
        x.make(false);
        x.make(true);
        x.push(1, INT, 5);
        due("without", x.get(0, 0), EMPTY);
        x.set(0, 0, INT, 0);
        due("zero", x.get(0, 0), 0);
        x.set(0, 0, OBJECT, 1);
        due("an object", x.get(0, 0), object(1));
        x.set(0, 0, INT, -1);
        due("below zero", x.get(0, 0), -1);
        due("a row", x.get(1, 0), NO);
        due("nothing", x.get(2, 0), NO);
        due("below", x.get(-1, 0), NO);
        due("beyond", x.get(100, 0), NO);
    }

    private static void push() {
        KeepHeap x = begin("5 push");
        x.make(true);
        x.make(false);
        due("an int", x.push(0, INT, 5), 1);
        due("nil", x.push(0, NIL, 5), 2);
        due("itself", x.push(0, OBJECT, 0), 3);
        due("no object", x.push(0, OBJECT, 2), REFUSED);
        due("no sort", x.push(0, 3, 2), REFUSED);
        due("a record", x.push(1, INT, 2), REFUSED);
        due("nothing", x.push(2, INT, 2), REFUSED);
        due("below", x.push(-1, INT, 2), REFUSED);
        due("beyond", x.push(100, INT, 2), REFUSED);
        for (int k = 4; k <= 20; k++) {
            due("push " + k, x.push(0, INT, k), k);
        }
        due("with 20", x.push(0, INT, 21), FULL);
        due("nil with 20", x.push(0, NIL, 0), FULL);
        due("no value with 20", x.push(0, OBJECT, 2), REFUSED);
        due("size", x.size(0), 20);
        due("the last", x.item(0, 19), 20);
        due("the first", x.item(0, 0), 5);
        due("the second", x.item(0, 1), EMPTY);
        due("the third", x.item(0, 2), object(0));
    }

    private static void pop() {
        KeepHeap x = begin("6 pop");
        x.make(true);
        x.make(false);
        x.set(1, 1, INT, 1);
        due("none", x.pop(0), NO);
        x.push(0, INT, 5);
        x.push(0, NIL, 5);
        x.push(0, OBJECT, 1);
        due("an object", x.pop(0), object(1));
        due("size", x.size(0), 2);
        due("nil", x.pop(0), EMPTY);
        due("an int", x.pop(0), 5);
        due("none again", x.pop(0), NO);
        due("size again", x.size(0), 0);
        due("a record", x.pop(1), NO);
        due("its size", x.size(1), 1);
        due("nothing", x.pop(2), NO);
        due("below", x.pop(-1), NO);
        due("beyond", x.pop(100), NO);
    }

    private static void put() {
        KeepHeap x = begin("7 put");
        x.make(true);
        x.make(false);
        x.set(1, 0, INT, 1);
        due("in none", x.put(0, 0, INT, 1), REFUSED);
        x.push(0, INT, 5);
        x.push(0, INT, 6);
        due("the first", x.put(0, 0, OBJECT, 1), 0);
        due("the last", x.put(0, 1, NIL, 1), 0);
        due("get the first", x.item(0, 0), object(1));
        due("get the last", x.item(0, 1), EMPTY);
        due("behind", x.put(0, 2, INT, 1), REFUSED);
        due("before", x.put(0, -1, INT, 1), REFUSED);
        due("no object", x.put(0, 0, OBJECT, 2), REFUSED);
        due("no sort", x.put(0, 0, 3, 1), REFUSED);
        due("a record", x.put(1, 0, INT, 1), REFUSED);
        due("nothing", x.put(2, 0, INT, 1), REFUSED);
        due("below", x.put(-1, 0, INT, 1), REFUSED);
        due("beyond", x.put(100, 0, INT, 1), REFUSED);
        due("the first stays", x.item(0, 0), object(1));
        due("size", x.size(0), 2);
        x.pop(0);
        due("what was popped", x.put(0, 1, INT, 1), REFUSED);
    }

    private static void item() {
        KeepHeap x = begin("8 item");
        x.make(true);
        x.make(false);
        x.set(1, 0, INT, 1);
        due("of none", x.item(0, 0), NO);
        for (int k = 0; k < 20; k++) {
            x.push(0, INT, -k);
        }
        for (int k = 0; k < 20; k++) {
            due("item " + k, x.item(0, k), -k);
        }
        due("behind", x.item(0, 20), NO);
        due("before", x.item(0, -1), NO);
        x.pop(0);
        due("popped", x.item(0, 19), NO);
        due("a record", x.item(1, 0), NO);
        due("nothing", x.item(2, 0), NO);
        due("below", x.item(-1, 0), NO);
        due("beyond", x.item(100, 0), NO);
    }

    private static void root() {
        KeepHeap x = begin("9 root");
        x.make(true);
        due("an int", x.root(-3, INT, 4), 1);
        due("an object", x.root(4, OBJECT, 0), 2);
        due("again", x.root(-3, INT, 5), 2);
        due("rooted", x.rooted(-3), 5);
        due("nil without", x.root(5, NIL, 1), 2);
        due("nil", x.root(-3, NIL, 1), 1);
        due("without", x.rooted(-3), EMPTY);
        due("the other one", x.rooted(4), object(0));
        due("no object 1", x.root(4, OBJECT, 1), REFUSED);
        due("no object -1", x.root(4, OBJECT, -1), REFUSED);
        due("no object 100", x.root(4, OBJECT, 100), REFUSED);
        due("no sort 3", x.root(4, 3, 1), REFUSED);
        due("no sort -1", x.root(4, -1, 1), REFUSED);
        due("the other one stays", x.rooted(4), object(0));
        due("count", x.count(1), 1);
    }

    private static void rooted() {
        KeepHeap x = begin("10 rooted");
        due("without", x.rooted(0), EMPTY);
        x.make(false);
        x.root(0, OBJECT, 0);
        x.root(Integer.MIN_VALUE, INT, Integer.MAX_VALUE);
        due("an object", x.rooted(0), object(0));
        due("an int", x.rooted(Integer.MIN_VALUE), Integer.MAX_VALUE);
        due("still without", x.rooted(1), EMPTY);
    }

    private static void commitOfObjects() {
        KeepHeap x = begin("11 commit, objects");
        due("nothing", x.commit(), 8);
        x.make(false);
        x.make(true);
        due("two new ones", x.commit(), 40);
        due("no change", x.commit(), 8);
        x.set(0, 1, INT, 1);
        due("one change", x.commit(), 24);
        x.set(0, 1, INT, 1);
        due("the same value", x.commit(), 8);
        x.set(0, 1, INT, 2);
        x.set(0, 1, INT, 1);
        due("there and back", x.commit(), 8);
        x.set(0, 1, OBJECT, 1);
        due("another sort", x.commit(), 24);
        x.set(0, 2, INT, 5);
        x.set(0, 3, INT, 5);
        x.push(1, NIL, 5);
        due("two changes", x.commit(), 40);
        due("what is kept stays", x.undo(), 0);
        due("size", x.size(0), 3);
    }

    private static void commitSeesTheOrderOfFields() {
        KeepHeap x = begin("11 commit, fields in their row");
        x.make(false);
        x.set(0, 1, INT, 10);
        x.set(0, 2, INT, 20);
        x.commit();
        x.set(0, 2, NIL, 0);
        x.set(0, 2, INT, 20);
        due("the last goes and comes", x.commit(), 8);
        x.set(0, 1, NIL, 0);
        x.set(0, 1, INT, 10);
        due("the first goes and comes", x.undo(), 16);
        x.set(0, 2, INT, 20);
        x.set(0, 1, INT, 10);
        due("set again in another row", x.commit(), 8);
        x.set(0, 1, NIL, 0);
        x.set(0, 2, NIL, 0);
        x.set(0, 1, INT, 10);
        x.set(0, 2, INT, 20);
        due("both go and come", x.commit(), 8);
        x.set(0, 2, NIL, 0);
        x.set(0, 3, INT, 20);
        due("another name with the value", x.commit(), 24);
    }

    private static void commitSeesRowsWhole() {
        KeepHeap x = begin("11 commit, rows");
        x.make(true);
        for (int k = 0; k < 20; k++) {
            x.push(0, NIL, k);
        }
        x.commit();
        x.put(0, 0, NIL, 77);
        due("nil is nil", x.commit(), 8);
        x.put(0, 19, INT, 0);
        due("the last", x.commit(), 24);
        x.put(0, 0, INT, 0);
        due("the first", x.commit(), 24);
        x.pop(0);
        due("shorter", x.commit(), 24);
        x.push(0, INT, 3);
        x.pop(0);
        due("push and pop", x.commit(), 8);
        x.push(0, NIL, 3);
        due("longer by nil", x.commit(), 24);
    }

    private static void commitOfRoots() {
        KeepHeap x = begin("11 commit, roots");
        x.make(true);
        x.commit();
        x.root(1, INT, 0);
        x.root(2, OBJECT, 0);
        due("two new ones", x.commit(), 20);
        x.root(1, INT, 0);
        due("the same", x.commit(), 8);
        x.root(1, OBJECT, 0);
        due("another sort", x.commit(), 14);
        x.root(1, NIL, 0);
        x.root(1, OBJECT, 0);
        due("goes and comes: no row among roots", x.commit(), 8);
        x.root(1, NIL, 0);
        due("gone", x.commit(), 14);
        x.root(2, NIL, 0);
        x.root(3, INT, 0);
        due("gone and new", x.commit(), 20);
        x.root(4, INT, 0);
        x.root(4, NIL, 0);
        due("new and gone", x.commit(), 8);
        x.make(false);
        x.root(3, INT, 1);
        due("both kinds", x.commit(), 30);
    }

    private static void undo() {
        KeepHeap x = begin("12 undo");
        x.make(false);
        x.set(0, 1, INT, 5);
        x.root(1, OBJECT, 0);
        due("to nothing", x.undo(), 22);
        due("nothing is there", x.count(0), 0);
        due("no root", x.rooted(1), EMPTY);
        x.make(false);
        x.make(true);
        x.set(0, 1, INT, 5);
        x.push(1, INT, 6);
        x.root(1, OBJECT, 0);
        x.commit();
        x.set(0, 1, INT, 50);
        x.set(0, 2, INT, 51);
        x.put(1, 0, INT, 52);
        x.make(true);
        x.root(1, NIL, 0);
        x.root(2, INT, 7);
        due("to what was kept", x.undo(), 60);
        due("get", x.get(0, 1), 5);
        due("size", x.size(0), 1);
        due("item", x.item(1, 0), 6);
        due("kind", x.kind(2), 0);
        due("rooted 1", x.rooted(1), object(0));
        due("rooted 2", x.rooted(2), EMPTY);
        due("again", x.undo(), 0);
        due("what waits", x.count(2), 1);
        due("bytes", x.count(3), 46);
        due("an undone object is no value", x.root(3, OBJECT, 2), REFUSED);
    }

    private static void undoAfterSync() {
        KeepHeap x = begin("12 undo after sync");
        x.make(true);
        x.commit();
        x.push(0, INT, 1);
        due("sync", x.sync(), 1);
        due("sync leaves what is there", x.size(0), 1);
        due("undo", x.undo(), 16);
        due("size", x.size(0), 0);
    }

    private static void sweep() {
        KeepHeap x = begin("13 sweep");
        due("of nothing", x.sweep(), 0);
        x.make(false);
        x.make(true);
        x.commit();
        x.root(1, INT, 0);
        x.root(2, INT, 1);
        x.commit();
        due("ints do not reach", x.sweep(), 2);
        due("count", x.count(0), 0);
        due("roots stay", x.count(1), 2);
        due("waiting", x.count(2), 3);
        due("bytes", x.count(3), 40 + 20 + 8);
        due("that is kept", x.undo(), 0);
        due("again", x.sweep(), 0);
        due("an idle sweep does not wait", x.count(2), 3);
        due("an idle sweep writes nothing", x.count(3), 68);
    }

    private static void sweepFollowsFieldsAndCircles() {
        KeepHeap x = begin("13 sweep, what is reached");
        for (int o = 0; o < 10; o++) {
            x.make(o % 2 == 0);
        }
        x.push(0, INT, 4);
        x.push(0, NIL, 4);
        x.push(0, OBJECT, 1);
        x.set(1, 5, INT, 6);
        x.set(1, 6, OBJECT, 2);
        x.push(2, OBJECT, 0);
        x.push(4, OBJECT, 5);
        x.set(5, 1, OBJECT, 4);
        x.push(6, OBJECT, 0);
        x.set(9, 1, OBJECT, 9);
        x.root(1, OBJECT, 0);
        x.root(2, OBJECT, 7);
        x.commit();
        due("sweep", x.sweep(), 6);
        int[] kinds = {2, 1, 2, 0, 0, 0, 0, 1, 0, 0};
        for (int o = 0; o < 10; o++) {
            due("kind " + o, x.kind(o), kinds[o]);
        }
        due("the slots stay", x.item(0, 2), object(1));
        x.set(1, 6, NIL, 0);
        x.commit();
        due("a link less", x.sweep(), 1);
        due("kind 2", x.kind(2), 0);
    }

    private static void sweepUndoesFirst() {
        KeepHeap x = begin("13 sweep undoes");
        x.make(true);
        x.root(1, OBJECT, 0);
        x.commit();
        x.make(false);
        x.push(0, INT, 1);
        x.root(1, NIL, 0);
        due("none goes", x.sweep(), 0);
        due("undone: kind", x.kind(1), 0);
        due("undone: size", x.size(0), 0);
        due("undone: root", x.rooted(1), object(0));
        due("waiting", x.count(2), 1);
        x.make(false);
        x.commit();
        x.root(2, OBJECT, 1);
        due("what is not kept does not reach", x.sweep(), 1);
        due("the root is undone", x.rooted(2), EMPTY);
    }

    private static void sync() {
        KeepHeap x = begin("14 sync");
        due("none", x.sync(), 0);
        x.make(true);
        x.commit();
        x.commit();
        x.sweep();
        due("two commits and a sweep", x.sync(), 3);
        due("none then", x.sync(), 0);
        due("waiting", x.count(2), 0);
        x.make(false);
        x.commit();
        x.make(false);
        due("one", x.sync(), 1);
        due("what is there stays", x.count(0), 2);
        due("crash", x.crash(0), 0);
        due("what was kept is safe", x.count(0), 1);
        due("bytes", x.count(3), 24 + 8 + 8 + 24);
    }

    private static void crash() {
        KeepHeap x = begin("15 crash");
        due("below 0", x.crash(-1), REFUSED);
        due("far below 0", x.crash(Integer.MIN_VALUE), REFUSED);
        x.make(true);
        x.commit();
        x.push(0, INT, 1);
        due("refused", x.crash(-1), REFUSED);
        due("a refused one does nothing", x.size(0), 1);
        due("still waits", x.count(2), 1);
        x.commit();
        x.push(0, INT, 2);
        x.commit();
        due("all", x.crash(Integer.MAX_VALUE), 3);
        due("size", x.size(0), 2);
        due("waiting", x.count(2), 0);
        due("bytes", x.count(3), 72);
        due("it is kept", x.undo(), 0);
        due("it is safe", x.crash(0), 0);
        due("size still", x.size(0), 2);
    }

    private static void crashLosesWhatIsNotKept() {
        KeepHeap x = begin("15 crash, not kept");
        x.make(true);
        x.commit();
        x.sync();
        x.push(0, INT, 1);
        x.make(false);
        x.root(1, INT, 1);
        due("crash", x.crash(1000), 0);
        due("size", x.size(0), 0);
        due("kind", x.kind(1), 0);
        due("root", x.rooted(1), EMPTY);
        x.push(0, INT, 1);
        x.commit();
        due("lost", x.crash(23), 0);
        x.push(0, INT, 2);
        due("compared with the state after the crash", x.commit(), 24);
        due("item", x.item(0, 0), 2);
        due("size", x.size(0), 1);
    }

    private static void keptStatesStayApart() {
        for (int left = 0; left <= 5; left++) {
            KeepHeap x = begin("states apart, " + left + " left");
            x.make(false);
            x.make(true);
            for (int k = 1; k <= 5; k++) {
                x.set(0, 1, INT, k);
                x.push(1, INT, k);
                x.put(1, 0, INT, -k);
                x.root(1, INT, k);
                due("commit " + k, x.commit(), 46);
            }
            x.set(0, 1, INT, 99);
            x.pop(1);
            x.root(1, NIL, 0);
            due("crash", x.crash(46 * left), left);
            due("get", x.get(0, 1), left == 0 ? NO : left);
            due("size", x.size(1), left == 0 ? REFUSED : left);
            due("item", x.item(1, 0), left == 0 ? NO : -left);
            due("rooted", x.rooted(1), left == 0 ? EMPTY : left);
        }
    }

    private static void kind() {
        KeepHeap x = begin("16 kind");
        x.make(true);
        x.make(false);
        due("a row", x.kind(0), 2);
        due("a record", x.kind(1), 1);
        due("nothing", x.kind(2), 0);
        due("the last", x.kind(99), 0);
        due("beyond", x.kind(100), REFUSED);
        due("below", x.kind(-1), REFUSED);
        due("far beyond", x.kind(Integer.MAX_VALUE), REFUSED);
        due("far below", x.kind(Integer.MIN_VALUE), REFUSED);
    }

    private static void size() {
        KeepHeap x = begin("17 size");
        x.make(true);
        x.make(false);
        due("a new row", x.size(0), 0);
        due("a new record", x.size(1), 0);
        x.push(0, NIL, 0);
        x.push(0, NIL, 0);
        x.set(1, 1, INT, 0);
        due("a row", x.size(0), 2);
        due("a record", x.size(1), 1);
        due("nothing", x.size(2), REFUSED);
        due("the last", x.size(99), REFUSED);
        due("beyond", x.size(100), REFUSED);
        due("below", x.size(-1), REFUSED);
    }

    private static void count() {
        KeepHeap x = begin("18 count");
        x.make(true);
        x.make(true);
        x.make(true);
        x.root(1, INT, 1);
        x.root(2, INT, 1);
        due("objects", x.count(0), 3);
        due("roots", x.count(1), 2);
        due("waiting", x.count(2), 0);
        due("bytes", x.count(3), 0);
        x.commit();
        due("waiting then", x.count(2), 1);
        due("bytes then", x.count(3), 68);
        due("others", x.count(4), REFUSED);
        due("below", x.count(-1), REFUSED);
        due("far beyond", x.count(Integer.MAX_VALUE), REFUSED);
        due("far below", x.count(Integer.MIN_VALUE), REFUSED);
    }

    private static void countOfBytes() {
        KeepHeap x = begin("18 count, bytes");
        x.make(true);
        x.commit();
        x.sync();
        due("sync loses none", x.count(3), 24);
        x.commit();
        x.commit();
        due("crash", x.crash(15), 1);
        due("what was lost does not count", x.count(3), 32);
        x.make(false);
        x.undo();
        due("undo writes nothing", x.count(3), 32);
        due("sweep", x.sweep(), 1);
        due("sweep writes 8", x.count(3), 40);
        for (int k = 0; k < 20; k++) {
            x.commit();
        }
        due("what became safe counts", x.count(3), 200);
    }

    private static void exampleOfTheReadme() {
        KeepHeap x = begin("README.md, Use");
        int person = x.make(false);
        int list = x.make(true);
        due("a record", person, 0);
        due("a row", list, 1);
        due("set", x.set(person, 7, INT, 42), 1);
        due("push", x.push(list, OBJECT, person), 1);
        due("root", x.root(1, OBJECT, list), 1);
        due("commit", x.commit(), 46);
        due("set nil", x.set(person, 7, NIL, 0), 0);
        due("undo", x.undo(), 16);
        due("the field is back", x.get(person, 7), 42);
        due("sync", x.sync(), 1);
        due("pop", x.pop(list), object(person));
        due("commit without it", x.commit(), 24);
        due("sweep", x.sweep(), 1);
        due("crash", x.crash(24), 1);
        due("kind", x.kind(person), 1);
    }
}
