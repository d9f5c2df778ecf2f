/**
 * The boundary cases of VALUES, OBJECTS and ROOTS (Terms; promises 1 to 10, 16 and 17): each test
 * names the sentence of the document that it holds the program to.
 */
public final class SlotBoundaryTest extends HeapTest {
    public static void main(String[] args) {
        values();
        objects();
        sets();
        gets();
        pushes();
        pops();
        puts();
        items();
        roots();
        looks();
        finish();
    }

    private static void values() {
        nilWhateverTheInt();
        intsAreThemselves();
        objectsAsLongs();
        noSuchSort();
        noSuchObject();
        objectsThatWent();
    }

    private static void nilWhateverTheInt() {
        KeepHeap x = begin("Terms: 0 nil (whatever the int)");
        x.make(true);
        int[] ints = {LEAST, -1, 0, 1, 99, 100, GREATEST};
        for (int k = 0; k < ints.length; k++) {
            due("push nil with " + ints[k], x.push(0, NIL, ints[k]), k + 1);
            due("item", x.item(0, k), EMPTY);
            due("put nil", x.put(0, 0, NIL, ints[k]), 0);
        }
        int record = makeRecord(x, 2);
        due("set nil to a least int", x.set(record, 1, NIL, LEAST), 1);
        due("set nil to a number beyond", x.set(record, 2, NIL, 100), 0);
        makeRoots(x, 1);
        due("root nil to a greatest int", x.root(1, NIL, GREATEST), 0);
    }

    private static void intsAreThemselves() {
        KeepHeap x = begin("Terms: an int itself");
        makeRow(x, 1);
        makeRecord(x, 0);
        int[] ints = {LEAST, LEAST + 1, -256, -3, -1, 0, 1, 2, 99, 100, 1 << 16, 1 << 30, GREATEST};
        for (int v : ints) {
            due("put " + v, x.put(0, 0, INT, v), 0);
            due("item " + v, x.item(0, 0), v);
            due("set " + v, x.set(1, 1, INT, v), 1);
            due("get " + v, x.get(1, 1), v);
            due("root " + v, x.root(1, INT, v), 1);
            due("rooted " + v, x.rooted(1), v);
        }
    }

    private static void objectsAsLongs() {
        KeepHeap x = begin("Terms: an OBJECT 2^40 + 1 and its number");
        makeMany(x, 99, true);
        int last = x.make(false);
        due("the last number", last, 99);
        int[] numbers = {0, 1, 98, 99};
        for (int o : numbers) {
            due("push " + o, x.push(0, OBJECT, o) > 0 ? 1 : 0, 1);
            due("pop " + o, x.pop(0), 1099511627777L + o);
            due("set " + o, x.set(last, 1, OBJECT, o), 1);
            due("get " + o, x.get(last, 1), 1099511627777L + o);
            due("root " + o, x.root(1, OBJECT, o), 1);
            due("rooted " + o, x.rooted(1), 1099511627777L + o);
        }
        due("nil is 2^40", x.get(last, 2), 1099511627776L);
        due("none is -2^40", x.get(0, 2), -1099511627776L);
    }

    private static void noSuchSort() {
        KeepHeap x = begin("Terms: VALUES, told by a SORT: 0, 1 and 2 alone");
        makeRecord(x, 1);
        makeRow(x, 1);
        makeRoots(x, 1);
        x.commit();
        for (int sort : NO_SORTS) {
            due("set a new one, sort " + sort, x.set(0, 2, sort, 0), REFUSED);
            due("set an old one, sort " + sort, x.set(0, 1, sort, 0), REFUSED);
            due("push, sort " + sort, x.push(1, sort, 0), REFUSED);
            due("put, sort " + sort, x.put(1, 0, sort, 0), REFUSED);
            due("root a new one, sort " + sort, x.root(2, sort, 0), REFUSED);
            due("root an old one, sort " + sort, x.root(1, sort, 0), REFUSED);
        }
        dueUnchanged(x);
    }

    private static void noSuchObject() {
        KeepHeap x = begin("Terms: 2 an OBJECT that is there");
        makeRecord(x, 1);
        makeRow(x, 1);
        makeRoots(x, 1);
        x.commit();
        for (int o : NO_NUMBERS) {
            dueNoValue(x, o);
        }
        dueNoValue(x, 2);
        dueNoValue(x, 99);
        dueUnchanged(x);
        due("it comes", x.make(true), 2);
        due("then it is a value", x.push(1, OBJECT, 2), 2);
        due("the next is none", x.push(1, OBJECT, 3), REFUSED);
    }

    /** For a heap with RECORD 0, ROW 1 that has a first VALUE, and ROOT 1. */
    private static void dueNoValue(KeepHeap x, int o) {
        due("set a new one to object " + o, x.set(0, 2, OBJECT, o), REFUSED);
        due("set an old one to object " + o, x.set(0, 1, OBJECT, o), REFUSED);
        due("push object " + o, x.push(1, OBJECT, o), REFUSED);
        due("put object " + o, x.put(1, 0, OBJECT, o), REFUSED);
        due("root object " + o, x.root(2, OBJECT, o), REFUSED);
        due("an old root to object " + o, x.root(1, OBJECT, o), REFUSED);
    }

    private static void objectsThatWent() {
        KeepHeap x = begin("Terms: an OBJECT that is there, not one that went");
        makeRecord(x, 1);
        makeRow(x, 1);
        x.root(1, OBJECT, 0);
        x.root(3, OBJECT, 1);
        x.commit();
        x.make(true);
        x.undo();
        dueNoValue(x, 2);
        x.make(true);
        x.commit();
        x.sweep();
        dueNoValue(x, 2);
        x.sync();
        x.make(true);
        x.commit();
        due("crash", x.crash(0), 0);
        dueNoValue(x, 2);
    }

    private static void objects() {
        noneAtFirst();
        objectsOfTheirOwn();
        makeWithoutSlots();
        makeTheLeastFree();
        makeFull();
    }

    private static void noneAtFirst() {
        KeepHeap x = begin("1: Nothing is there");
        dueNothingThere(x);
        for (int o = 0; o < 100; o++) {
            due("kind " + o, x.kind(o), 0);
            due("size " + o, x.size(o), REFUSED);
        }
        due("get", x.get(0, 0), NO);
        due("item", x.item(0, 0), NO);
        due("pop", x.pop(0), NO);
        due("waiting", x.count(2), 0);
        due("bytes", x.count(3), 0);
    }

    private static void objectsOfTheirOwn() {
        KeepHeap x = begin("1: Nothing is there, whatever another one holds");
        makeMany(x, 100, true);
        makeRoots(x, 12);
        x.commit();
        x.sync();
        KeepHeap y = new KeepHeap();
        dueNothingThere(y);
        due("waiting", y.count(2), 0);
        due("bytes", y.count(3), 0);
        due("crash", y.crash(GREATEST), 0);
        dueNothingThere(y);
        due("the first stays", x.count(0), 100);
    }

    private static void makeWithoutSlots() {
        KeepHeap x = begin("2: A RECORD, or a ROW, without slots comes");
        makeRecord(x, 8);
        makeRow(x, 20);
        x.commit();
        x.sweep();
        due("a row where a record was", x.make(true), 0);
        due("a record where a row was", x.make(false), 1);
        due("size of the row", x.size(0), 0);
        due("size of the record", x.size(1), 0);
        due("item", x.item(0, 0), NO);
        due("get", x.get(1, 1), EMPTY);
        due("kind of the row", x.kind(0), 2);
        due("kind of the record", x.kind(1), 1);
    }

    private static void makeTheLeastFree() {
        KeepHeap x = begin("2: its number, the least that is free");
        makeMany(x, 100, false);
        for (int name = 0; name < 12; name++) {
            x.root(name, OBJECT, 1 + 8 * name);
        }
        x.commit();
        due("sweep", x.sweep(), 88);
        for (int o = 0; o < 100; o++) {
            if (x.kind(o) == 0) {
                due("make", x.make(true), o);
            }
        }
        due("all numbers", x.make(true), FULL);
    }

    private static void makeFull() {
        KeepHeap x = begin("2: FULL with 100");
        makeMany(x, 99, true);
        due("with 99", x.make(false), 99);
        x.commit();
        due("a row with 100", x.make(true), FULL);
        due("a record with 100", x.make(false), FULL);
        due("still 100", x.count(0), 100);
        dueUnchanged(x);
        x.root(1, OBJECT, 99);
        x.commit();
        due("all but the last go", x.sweep(), 99);
        due("then there is room", x.make(false), 0);
    }

    private static void sets() {
        setBehindTheOthers();
        setNilTakesAway();
        setNilWithout();
        setNoSuchRecord();
        setFull();
        setNames();
    }

    private static void setBehindTheOthers() {
        KeepHeap x = begin("3: a new one comes behind the others");
        makeRecord(x, 8);
        x.commit();
        x.set(0, 8, NIL, 0);
        x.set(0, 8, INT, 80);
        due("the last comes again where it was", x.undo(), 0);
        x.set(0, 7, NIL, 0);
        x.set(0, 7, INT, 70);
        due("the one before comes behind it", x.undo(), 16);
        x.set(0, 1, INT, 11);
        x.set(0, 1, INT, 10);
        due("one that is there stays where it is", x.undo(), 0);
    }

    private static void setNilTakesAway() {
        for (int gone = 1; gone <= 8; gone++) {
            KeepHeap x = begin("3: nil takes it away, field " + gone + " of 8");
            makeRecord(x, 8);
            due("set nil", x.set(0, gone, NIL, 0), 7);
            for (int name = 1; name <= 8; name++) {
                due("get " + name, x.get(0, name), name == gone ? EMPTY : 10 * name);
            }
            due("size", x.size(0), 7);
        }
        KeepHeap x = begin("3: nil takes it away, the only one");
        makeRecord(x, 1);
        due("set nil", x.set(0, 1, NIL, 0), 0);
        due("get", x.get(0, 1), EMPTY);
        due("it is there without fields", x.kind(0), 1);
    }

    private static void setNilWithout() {
        for (int fields = 0; fields <= 8; fields++) {
            KeepHeap x = begin("3: nil (or does nothing without), with " + fields);
            makeRecord(x, fields);
            x.commit();
            due("set nil", x.set(0, 9, NIL, 0), fields);
            due("set nil again", x.set(0, 0, NIL, 0), fields);
            dueUnchanged(x);
        }
    }

    private static void setNoSuchRecord() {
        KeepHeap x = begin("3: REFUSED if there is no such RECORD");
        makeRow(x, 1);
        x.commit();
        for (int o : NO_NUMBERS) {
            due("set " + o, x.set(o, 1, INT, 1), REFUSED);
            due("set nil " + o, x.set(o, 1, NIL, 1), REFUSED);
        }
        due("a row", x.set(0, 1, INT, 1), REFUSED);
        due("nil for a row", x.set(0, 0, NIL, 1), REFUSED);
        due("the next", x.set(1, 1, INT, 1), REFUSED);
        due("the last", x.set(99, 1, INT, 1), REFUSED);
        due("nil for nothing", x.set(1, 1, NIL, 1), REFUSED);
        dueUnchanged(x);
    }

    private static void setFull() {
        KeepHeap x = begin("3: FULL with 8 others (nothing is done)");
        makeRecord(x, 7);
        due("with 7 others", x.set(0, 8, INT, 80), 8);
        x.commit();
        due("an int with 8 others", x.set(0, 9, INT, 90), FULL);
        due("an object with 8 others", x.set(0, 9, OBJECT, 0), FULL);
        due("no such value with 8 others", x.set(0, 9, OBJECT, 1), REFUSED);
        due("no such sort with 8 others", x.set(0, 9, 3, 1), REFUSED);
        due("get", x.get(0, 9), EMPTY);
        dueUnchanged(x);
        for (int name = 1; name <= 8; name++) {
            due("one of the 8, " + name, x.set(0, name, OBJECT, 0), 8);
        }
        due("take one", x.set(0, 1, NIL, 0), 7);
        due("then there is room", x.set(0, 9, INT, 90), 8);
        due("and no more", x.set(0, 1, INT, 10), FULL);
    }

    private static void setNames() {
        KeepHeap x = begin("Terms: each a NAME, an int");
        makeRecord(x, 0);
        int[] names = {LEAST, GREATEST, 0, -1, 1, 256, 1 << 16, -(1 << 30)};
        for (int k = 0; k < names.length; k++) {
            due("set " + names[k], x.set(0, names[k], INT, k), k + 1);
            due("root " + names[k], x.root(names[k], INT, -k), k + 1);
        }
        for (int k = 0; k < names.length; k++) {
            due("get " + names[k], x.get(0, names[k]), k);
            due("rooted " + names[k], x.rooted(names[k]), -k);
        }
    }

    private static void gets() {
        KeepHeap x = begin("4: nil without");
        makeRecord(x, 0);
        makeRecord(x, 8);
        due("of no fields", x.get(0, 0), EMPTY);
        due("of 8 others", x.get(1, 0), EMPTY);
        due("of 8 others", x.get(1, 9), EMPTY);
        due("the last of 8", x.get(1, 8), 80);

        x = begin("4: -2^40 if there is no such RECORD");
        makeRow(x, 1);
        due("a row", x.get(0, 0), NO);
        due("the next", x.get(1, 0), NO);
        due("the last", x.get(99, 0), NO);
        for (int o : NO_NUMBERS) {
            due("get " + o, x.get(o, 0), NO);
        }
    }

    private static void pushes() {
        pushNil();
        pushNoSuchRow();
        pushFull();
    }

    private static void pushNil() {
        KeepHeap x = begin("5: A VALUE (nil, too) comes last");
        makeRow(x, 0);
        for (int k = 1; k <= 20; k++) {
            due("push nil " + k, x.push(0, NIL, 0), k);
        }
        due("size", x.size(0), 20);
        due("the first", x.item(0, 0), EMPTY);
        due("the last", x.item(0, 19), EMPTY);
    }

    private static void pushNoSuchRow() {
        KeepHeap x = begin("5: REFUSED if there is no such ROW");
        makeRecord(x, 1);
        x.commit();
        for (int o : NO_NUMBERS) {
            due("push " + o, x.push(o, INT, 1), REFUSED);
        }
        due("a record", x.push(0, INT, 1), REFUSED);
        due("nil for a record", x.push(0, NIL, 1), REFUSED);
        due("the next", x.push(1, INT, 1), REFUSED);
        due("the last", x.push(99, INT, 1), REFUSED);
        dueUnchanged(x);
    }

    private static void pushFull() {
        KeepHeap x = begin("5: FULL with 20");
        makeRow(x, 19);
        due("with 19", x.push(0, INT, 190), 20);
        x.commit();
        due("an int with 20", x.push(0, INT, 1), FULL);
        due("nil with 20", x.push(0, NIL, 1), FULL);
        due("an object with 20", x.push(0, OBJECT, 0), FULL);
        due("no such value with 20", x.push(0, OBJECT, 1), REFUSED);
        due("size", x.size(0), 20);
        dueUnchanged(x);
        due("pop", x.pop(0), 190);
        due("then there is room", x.push(0, INT, 7), 20);
        due("the last", x.item(0, 19), 7);
        due("and no more", x.push(0, INT, 8), FULL);
    }

    private static void pops() {
        KeepHeap x = begin("6: -2^40 if there is none");
        makeRow(x, 20);
        for (int k = 19; k >= 0; k--) {
            due("pop " + k, x.pop(0), 10 * k);
            due("size", x.size(0), k);
        }
        x.commit();
        due("of none", x.pop(0), NO);
        due("of none again", x.pop(0), NO);
        due("size", x.size(0), 0);
        dueUnchanged(x);
        due("push then", x.push(0, NIL, 0), 1);
        due("nil is not none", x.pop(0), EMPTY);

        x = begin("6: or no such ROW");
        makeRecord(x, 1);
        x.commit();
        due("a record", x.pop(0), NO);
        due("the next", x.pop(1), NO);
        due("the last", x.pop(99), NO);
        for (int o : NO_NUMBERS) {
            due("pop " + o, x.pop(o), NO);
        }
        dueUnchanged(x);
    }

    private static void puts() {
        putFromFirstToLast();
        putNoSuchPlace();
        putNoSuchRow();
    }

    private static void putFromFirstToLast() {
        KeepHeap x = begin("7: VALUE k, from 0, becomes another one");
        makeRow(x, 20);
        for (int k = 0; k < 20; k++) {
            due("put " + k, x.put(0, k, INT, -k), 0);
            due("item " + k, x.item(0, k), -k);
            due("the next stays", x.item(0, k + 1), k == 19 ? NO : 10 * (k + 1));
        }
        due("nil, too", x.put(0, 19, NIL, 0), 0);
        due("nil is there", x.item(0, 19), EMPTY);
        due("size", x.size(0), 20);
        x.commit();
        x.put(0, 19, NIL, 5);
        due("the same one", x.undo(), 0);
    }

    private static void putNoSuchPlace() {
        int[] sizes = {0, 1, 19, 20};
        for (int size : sizes) {
            KeepHeap x = begin("7: REFUSED if there is no such VALUE there, of " + size);
            makeRow(x, size);
            x.commit();
            int[] places = {LEAST, -20, -1, size, size + 1, 20, 21, GREATEST};
            for (int k : places) {
                due("put " + k, x.put(0, k, INT, 1), REFUSED);
                due("put nil " + k, x.put(0, k, NIL, 1), REFUSED);
            }
            dueUnchanged(x);
        }
        KeepHeap x = begin("7: REFUSED where a VALUE was popped");
        makeRow(x, 2);
        x.pop(0);
        due("put", x.put(0, 1, INT, 1), REFUSED);
        due("size", x.size(0), 1);
    }

    private static void putNoSuchRow() {
        KeepHeap x = begin("7: REFUSED if there is no such ROW");
        makeRecord(x, 8);
        x.commit();
        for (int o : NO_NUMBERS) {
            due("put " + o, x.put(o, 0, INT, 1), REFUSED);
        }
        due("a record", x.put(0, 0, INT, 1), REFUSED);
        due("the next", x.put(1, 0, INT, 1), REFUSED);
        due("the last", x.put(99, 0, INT, 1), REFUSED);
        dueUnchanged(x);
    }

    private static void items() {
        int[] sizes = {0, 1, 19, 20};
        for (int size : sizes) {
            KeepHeap x = begin("8: -2^40 if there is none, of " + size);
            makeRow(x, size);
            int[] places = {LEAST, -20, -1, size, size + 1, 20, 21, GREATEST};
            for (int k : places) {
                due("item " + k, x.item(0, k), NO);
            }
            due("the last", x.item(0, size - 1), size == 0 ? NO : 10 * (size - 1));
            due("the first", x.item(0, 0), size == 0 ? NO : 0);
        }
        KeepHeap x = begin("8: -2^40 if there is no such ROW");
        makeRecord(x, 8);
        due("a record", x.item(0, 0), NO);
        due("the next", x.item(1, 0), NO);
        due("the last", x.item(99, 0), NO);
        for (int o : NO_NUMBERS) {
            due("item of " + o, x.item(o, 0), NO);
        }
    }

    private static void roots() {
        rootNilTakesAway();
        rootNilWithout();
        rootFull();
        rootedWithout();
    }

    private static void rootNilTakesAway() {
        for (int gone = 1; gone <= 12; gone++) {
            KeepHeap x = begin("9: nil takes it away, root " + gone + " of 12");
            makeRoots(x, 12);
            due("root nil", x.root(gone, NIL, 0), 11);
            for (int name = 1; name <= 12; name++) {
                due("rooted " + name, x.rooted(name), name == gone ? EMPTY : 10 * name);
            }
            due("count", x.count(1), 11);
        }
        KeepHeap x = begin("9: nil takes it away, the only one");
        makeRoots(x, 1);
        due("root nil", x.root(1, NIL, 0), 0);
        due("rooted", x.rooted(1), EMPTY);
    }

    private static void rootNilWithout() {
        for (int names = 0; names <= 12; names++) {
            KeepHeap x = begin("9: nil (or does nothing without), with " + names);
            makeRoots(x, names);
            x.commit();
            due("root nil", x.root(13, NIL, 0), names);
            due("root nil again", x.root(0, NIL, 0), names);
            due("count", x.count(1), names);
            dueUnchanged(x);
        }
    }

    private static void rootFull() {
        KeepHeap x = begin("9: FULL with 12 others (nothing is done)");
        x.make(true);
        makeRoots(x, 11);
        due("with 11 others", x.root(12, INT, 120), 12);
        x.commit();
        due("an int with 12 others", x.root(13, INT, 1), FULL);
        due("an object with 12 others", x.root(13, OBJECT, 0), FULL);
        due("no such value with 12 others", x.root(13, OBJECT, 1), REFUSED);
        due("no such sort with 12 others", x.root(13, 3, 1), REFUSED);
        due("rooted", x.rooted(13), EMPTY);
        due("count", x.count(1), 12);
        dueUnchanged(x);
        for (int name = 1; name <= 12; name++) {
            due("one of the 12, " + name, x.root(name, OBJECT, 0), 12);
        }
        due("take one", x.root(12, NIL, 0), 11);
        due("then there is room", x.root(13, INT, 1), 12);
        due("and no more", x.root(12, INT, 1), FULL);
    }

    private static void rootedWithout() {
        KeepHeap x = begin("10: The VALUE of a ROOT, nil without");
        int[] names = {LEAST, -1, 0, 13, GREATEST};
        for (int name : names) {
            due("of none, " + name, x.rooted(name), EMPTY);
        }
        makeRoots(x, 12);
        for (int name : names) {
            due("of 12 others, " + name, x.rooted(name), EMPTY);
        }
        due("the first", x.rooted(1), 10);
        due("the last", x.rooted(12), 120);
    }

    private static void looks() {
        kindBeyond();
        sizeOfNone();
        sizeAtItsBounds();
    }

    private static void kindBeyond() {
        KeepHeap x = begin("16: REFUSED for numbers beyond 0 to 99");
        for (int o : NO_NUMBERS) {
            due("kind " + o, x.kind(o), REFUSED);
        }
        due("0 is nothing", x.kind(0), 0);
        due("99 is nothing", x.kind(99), 0);
        makeMany(x, 99, true);
        due("99 is nothing still", x.kind(99), 0);
        x.make(false);
        due("0 is a row", x.kind(0), 2);
        due("99 is a record", x.kind(99), 1);
        for (int o : NO_NUMBERS) {
            due("kind with 100, " + o, x.kind(o), REFUSED);
        }
    }

    private static void sizeOfNone() {
        KeepHeap x = begin("17: REFUSED if there is none");
        for (int o : NO_NUMBERS) {
            due("size " + o, x.size(o), REFUSED);
        }
        due("size 0", x.size(0), REFUSED);
        makeMany(x, 99, true);
        due("0 without slots is there", x.size(0), 0);
        due("size 99", x.size(99), REFUSED);
        x.make(false);
        due("99 without slots is there", x.size(99), 0);
        for (int o : NO_NUMBERS) {
            due("size with 100, " + o, x.size(o), REFUSED);
        }
        x.undo();
        due("size of what was undone", x.size(0), REFUSED);
    }

    private static void sizeAtItsBounds() {
        KeepHeap x = begin("17: How many slots, from none to 8 and 20");
        for (int fields = 0; fields <= 8; fields++) {
            due("fields", x.size(makeRecord(x, fields)), fields);
        }
        for (int items = 0; items <= 20; items++) {
            due("items", x.size(makeRow(x, items)), items);
        }
        due("a ninth field", x.size(makeRecord(x, 9)), 8);
        due("one item more", x.size(makeRow(x, 21)), 20);
    }
}
