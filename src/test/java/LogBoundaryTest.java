/**
 * The boundary cases of what is KEPT, of THE LOG and of what is SAFE (Terms; promises 11 to 15 and
 * 18), and the length of a run: each test names the sentence of the document that it holds the
 * program to.
 */
public final class LogBoundaryTest extends HeapTest {
    public static void main(String[] args) {
        commits();
        undos();
        sweeps();
        waits();
        syncs();
        crashes();
        counts();
        longRuns();
        finish();
    }

    private static void commits() {
        commitOfNothing();
        commitOfEachObject();
        commitOfSlots();
        commitOfRoots();
        commitOfTheMost();
        commitAgainstTheLastKept();
    }

    private static void commitOfNothing() {
        KeepHeap x = begin("Terms: each commit writes 8 bytes");
        due("of a new object", x.commit(), 8);
        due("again", x.commit(), 8);
        due("both wait", x.count(2), 2);
        due("bytes", x.count(3), 16);
        dueNothingThere(x);
    }

    private static void commitOfEachObject() {
        int[] numbers = {0, 1, 99, 100};
        for (int objects : numbers) {
            KeepHeap x = begin("Terms: 16 for each OBJECT that is not there, of " + objects);
            makeMany(x, objects, true);
            due("all new", x.commit(), 8 + 16 * objects);
            due("none new", x.commit(), 8);
            for (int o = 0; o < objects; o++) {
                x.push(o, NIL, 0);
            }
            due("all others", x.commit(), 8 + 16 * objects);
            x.push(objects - 1, INT, 0);
            due("the last one alone", x.commit(), objects == 0 ? 8 : 24);
            x.push(0, INT, 0);
            due("the first one alone", x.commit(), objects == 0 ? 8 : 24);
        }
    }

    private static void commitOfSlots() {
        int[] places = {0, 10, 19};
        for (int k : places) {
            KeepHeap x = begin("Terms: all its slots in their row, value " + k);
            makeRow(x, 20);
            x.commit();
            x.put(0, k, INT, 10 * k);
            due("the same", x.commit(), 8);
            x.put(0, k, INT, 10 * k + 1);
            due("another", x.commit(), 24);
            x.put(0, k, NIL, 0);
            due("nil", x.commit(), 24);
        }
        int[] names = {1, 4, 8};
        for (int name : names) {
            KeepHeap x = begin("Terms: all its slots in their row, field " + name);
            makeRecord(x, 8);
            x.commit();
            x.set(0, name, INT, 10 * name);
            due("the same", x.commit(), 8);
            x.set(0, name, OBJECT, 0);
            due("another", x.commit(), 24);
            x.set(0, name, NIL, 0);
            due("gone", x.commit(), 24);
            x.set(0, 100 + name, OBJECT, 0);
            due("another name", x.commit(), 24);
        }
        KeepHeap x = begin("Terms: the same in all its slots, none at all");
        makeRecord(x, 0);
        makeRow(x, 0);
        x.commit();
        x.set(0, 1, INT, 1);
        x.set(0, 1, NIL, 1);
        x.push(1, INT, 1);
        x.pop(1);
        due("none again", x.commit(), 8);
    }

    private static void commitOfRoots() {
        int[] numbers = {0, 1, 11, 12};
        for (int names : numbers) {
            KeepHeap x = begin("Terms: 6 for each ROOT that is new, another or gone, of " + names);
            makeRoots(x, names);
            due("new", x.commit(), 8 + 6 * names);
            makeRoots(x, names);
            due("the same", x.commit(), 8);
            for (int name = 1; name <= names; name++) {
                x.root(name, INT, 0);
            }
            due("another value", x.commit(), 8 + 6 * names);
            for (int name = 1; name <= names; name++) {
                x.root(name, NIL, 0);
            }
            due("gone", x.commit(), 8 + 6 * names);
            due("gone before", x.commit(), 8);
        }
        KeepHeap x = begin("Terms: 6 for each ROOT, 12 gone and 12 new");
        makeRoots(x, 12);
        x.commit();
        for (int name = 1; name <= 12; name++) {
            x.root(name, NIL, 0);
            x.root(-name, INT, 10 * name);
        }
        due("commit", x.commit(), 8 + 6 * 24);
    }

    private static void commitOfTheMost() {
        KeepHeap x = begin("11: how many bytes that wrote, the most");
        makeMany(x, 100, false);
        makeRoots(x, 12);
        due("all new", x.commit(), 8 + 1600 + 72);
        for (int o = 0; o < 100; o++) {
            x.set(o, 1, OBJECT, o);
        }
        for (int name = 1; name <= 12; name++) {
            x.root(name, NIL, 0);
            x.root(100 + name, INT, 0);
        }
        due("all others", x.commit(), 8 + 1600 + 144);
        due("bytes", x.count(3), 1680 + 1752);
        due("one byte less than both", x.crash(1680 + 1751), 1);
        due("the first ones", x.rooted(12), 120);
        due("without fields", x.size(99), 0);
    }

    private static void commitAgainstTheLastKept() {
        KeepHeap x = begin("Terms: THE KEPT state is that of the last commit, sweep or crash");
        makeRow(x, 1);
        x.root(1, OBJECT, 0);
        makeRow(x, 1);
        x.commit();
        x.put(0, 0, INT, 7);
        x.commit();
        x.put(0, 0, INT, 0);
        due("not the one before the last commit", x.commit(), 24);
        x.put(0, 0, INT, 8);
        due("a sweep", x.sweep(), 1);
        x.put(0, 0, INT, 0);
        due("against the sweep", x.undo(), 0);
        x.make(true);
        due("what the sweep took is new", x.undo(), 16);
        due("crash behind the first commit", x.crash(46), 1);
        x.put(0, 0, INT, 0);
        due("against the crash", x.commit(), 8);
        due("what the sweep took is there", x.kind(1), 2);
    }

    private static void undos() {
        undoToNothing();
        undoOfNothing();
        undoFromTheMost();
    }

    private static void undoToNothing() {
        KeepHeap x = begin("Terms: THE KEPT state is at first nothing");
        makeMany(x, 100, true);
        makeRoots(x, 12);
        due("undo", x.undo(), 1600 + 72);
        dueNothingThere(x);
        due("nothing waits", x.count(2), 0);
        due("nothing is written", x.count(3), 0);
    }

    private static void undoOfNothing() {
        KeepHeap x = begin("12: how many bytes a commit would have written, less 8");
        due("of a new object", x.undo(), 0);
        makeRow(x, 1);
        x.commit();
        due("behind a commit", x.undo(), 0);
        x.push(0, INT, 1);
        due("one change", x.undo(), 16);
        due("again", x.undo(), 0);
        x.sync();
        due("behind a sync", x.undo(), 0);
        due("crash", x.crash(0), 0);
        due("behind a crash", x.undo(), 0);
        due("sweep", x.sweep(), 1);
        due("behind a sweep", x.undo(), 0);
    }

    private static void undoFromTheMost() {
        KeepHeap x = begin("12: All is as it was KEPT, full ones");
        makeRecord(x, 8);
        makeRow(x, 20);
        makeRoots(x, 12);
        x.commit();
        for (int k = 0; k < 20; k++) {
            x.pop(1);
        }
        for (int name = 1; name <= 12; name++) {
            x.set(0, name, NIL, 0);
            x.root(name, NIL, 0);
        }
        makeMany(x, 98, false);
        due("undo", x.undo(), 100 * 16 + 72);
        for (int name = 1; name <= 8; name++) {
            due("get " + name, x.get(0, name), 10 * name);
        }
        for (int k = 0; k < 20; k++) {
            due("item " + k, x.item(1, k), 10 * k);
        }
        for (int name = 1; name <= 12; name++) {
            due("rooted " + name, x.rooted(name), 10 * name);
        }
        due("objects", x.count(0), 2);
        due("full as before", x.push(1, INT, 0), FULL);
    }

    private static void sweeps() {
        sweepAlsoIfNoneGoes();
        sweepWrites();
        sweepOfAll();
        sweepReachesTheFarthest();
        sweepOfCircles();
        sweepSeesNumbersApart();
    }

    private static void sweepAlsoIfNoneGoes() {
        KeepHeap x = begin("13: All is as it was KEPT (also if none goes)");
        makeRow(x, 1);
        x.root(1, OBJECT, 0);
        x.commit();
        x.push(0, INT, 5);
        x.make(false);
        x.root(1, NIL, 0);
        x.root(2, INT, 0);
        due("none goes", x.sweep(), 0);
        due("the value is undone", x.size(0), 1);
        due("the object is undone", x.kind(1), 0);
        due("the old root is back", x.rooted(1), object(0));
        due("the new root is undone", x.rooted(2), EMPTY);

        x = begin("13: All is as it was KEPT, of nothing");
        makeMany(x, 3, true);
        due("none goes", x.sweep(), 0);
        dueNothingThere(x);
        due("nothing waits", x.count(2), 0);
    }

    private static void sweepWrites() {
        int[] numbers = {1, 2, 99, 100};
        for (int objects : numbers) {
            KeepHeap x = begin("Terms: A sweep of one OBJECT at least writes 8, of " + objects);
            makeMany(x, objects, false);
            x.commit();
            int before = 8 + 16 * objects;
            due("sweep", x.sweep(), objects);
            due("waiting", x.count(2), 2);
            due("bytes", x.count(3), before + 8);
            due("one of none", x.sweep(), 0);
            due("that does not wait", x.count(2), 2);
            due("that writes nothing", x.count(3), before + 8);
            due("crash within its bytes", x.crash(before + 7), 1);
            due("objects", x.count(0), objects);
        }
    }

    private static void sweepOfAll() {
        KeepHeap x = begin("13: OBJECTS that can not be reached go, all of them");
        makeMany(x, 100, true);
        makeRoots(x, 12);
        x.commit();
        due("sweep", x.sweep(), 100);
        due("objects", x.count(0), 0);
        due("roots stay", x.count(1), 12);
        due("that is kept", x.undo(), 0);
        due("all numbers are free", x.make(false), 0);
    }

    private static void sweepReachesTheFarthest() {
        KeepHeap x = begin("13: reached from ROOTS, through 100 in a row");
        makeMany(x, 100, true);
        for (int o = 0; o < 99; o++) {
            x.push(o, OBJECT, o + 1);
        }
        x.root(1, OBJECT, 0);
        x.commit();
        due("all are reached", x.sweep(), 0);
        x.pop(98);
        x.commit();
        due("the last is not", x.sweep(), 1);
        due("kind 99", x.kind(99), 0);
        x.root(1, OBJECT, 97);
        x.commit();
        due("those before are not", x.sweep(), 97);
        due("objects", x.count(0), 2);

        x = begin("13: reached from ROOTS, through the last slots");
        makeMany(x, 4, true);
        int record = makeRecord(x, 7);
        x.set(record, 8, OBJECT, 0);
        for (int k = 0; k < 19; k++) {
            x.push(0, NIL, 0);
        }
        x.push(0, OBJECT, 3);
        makeRoots(x, 11);
        x.root(12, OBJECT, record);
        x.commit();
        due("sweep", x.sweep(), 2);
        due("reached by the last field", x.kind(0), 2);
        due("reached by the last value", x.kind(3), 2);
    }

    private static void sweepOfCircles() {
        KeepHeap x = begin("13: can not be reached, though they hold each other");
        makeMany(x, 3, true);
        x.push(0, OBJECT, 0);
        x.push(1, OBJECT, 2);
        x.push(2, OBJECT, 1);
        x.push(1, OBJECT, 0);
        x.root(1, OBJECT, 2);
        x.commit();
        due("reached in a circle", x.sweep(), 0);
        x.root(1, NIL, 0);
        x.commit();
        due("none is reached", x.sweep(), 3);
    }

    private static void sweepSeesNumbersApart() {
        KeepHeap x = begin("13: reached from ROOTS, not by ints and nil");
        makeMany(x, 100, true);
        x.push(5, INT, 6);
        x.push(5, NIL, 7);
        x.push(5, OBJECT, 99);
        x.root(1, INT, 0);
        x.root(2, INT, 99);
        x.root(3, OBJECT, 5);
        x.root(4, INT, LEAST);
        x.root(5, INT, GREATEST);
        x.commit();
        due("sweep", x.sweep(), 98);
        due("the root's", x.kind(5), 2);
        due("its value's", x.kind(99), 2);
        due("roots stay", x.count(1), 5);
    }

    private static void waits() {
        safeAtFirst();
        upToEightWait();
        oneMoreThanEight();
        oneMoreIsASweep();
        idleCallsDoNotWait();
        ringAfterSync();
        ringAfterCrash();
    }

    private static void safeAtFirst() {
        KeepHeap x = begin("Terms: SAFE is a state, at first nothing");
        makeMany(x, 2, true);
        makeRoots(x, 2);
        commitMany(x, 8);
        due("crash", x.crash(0), 0);
        dueNothingThere(x);
        due("bytes", x.count(3), 0);
    }

    /** Commits of 24 bytes each: behind commit k, from 1, ROW 0 has k VALUES. */
    private static void growByCommits(KeepHeap x, int commits) {
        for (int k = 1; k <= commits; k++) {
            x.push(0, INT, k);
            x.commit();
        }
    }

    private static void upToEightWait() {
        for (int commits = 0; commits <= 8; commits++) {
            for (int left = 0; left <= commits; left++) {
                KeepHeap x = begin("Terms: up to 8 WAIT, " + commits + ", of which " + left + " are left");
                x.make(true);
                growByCommits(x, commits);
                due("waiting", x.count(2), commits);
                due("crash", x.crash(24 * left), left);
                due("size", x.size(0), left == 0 ? REFUSED : left);
            }
        }
    }

    private static void oneMoreThanEight() {
        for (int commits = 9; commits <= 20; commits++) {
            for (int left = 0; left <= 8; left++) {
                KeepHeap x = begin("Terms: with one more the state behind the oldest becomes SAFE, "
                    + commits + ", of which " + left + " are left");
                x.make(true);
                growByCommits(x, commits);
                int safe = commits - 8;
                due("waiting", x.count(2), 8);
                due("bytes", x.count(3), 24 * commits);
                due("crash", x.crash(24 * left), left);
                due("size", x.size(0), safe + left);
                due("the last value", x.item(0, safe + left - 1), safe + left);
                due("bytes then", x.count(3), 24 * (safe + left));
            }
        }
    }

    private static void oneMoreIsASweep() {
        KeepHeap x = begin("Terms: up to 8 commits and sweeps, the ninth a sweep");
        makeRow(x, 1);
        commitMany(x, 8);
        due("sweep", x.sweep(), 1);
        due("waiting", x.count(2), 8);
        due("crash", x.crash(0), 0);
        due("the first commit is safe", x.count(0), 1);
        due("bytes", x.count(3), 24);

        x = begin("Terms: up to 8 commits and sweeps, the oldest a sweep");
        makeRow(x, 1);
        x.commit();
        x.sync();
        due("sweep", x.sweep(), 1);
        commitMany(x, 7);
        due("waiting", x.count(2), 8);
        due("one more", x.commit(), 8);
        due("waiting still", x.count(2), 8);
        due("crash", x.crash(0), 0);
        due("the sweep is safe", x.count(0), 0);
        due("bytes", x.count(3), 24 + 8);
    }

    private static void idleCallsDoNotWait() {
        KeepHeap x = begin("Terms: commits and sweeps WAIT, nothing else");
        x.make(true);
        x.root(1, OBJECT, 0);
        x.commit();
        commitMany(x, 7);
        x.undo();
        due("a sweep of none", x.sweep(), 0);
        due("refused", x.crash(-1), REFUSED);
        due("waiting", x.count(2), 8);
        due("the first is not safe", x.crash(0), 0);
        due("objects", x.count(0), 0);
    }

    private static void ringAfterSync() {
        for (int before = 0; before <= 10; before++) {
            KeepHeap x = begin("Terms: up to 8 WAIT, behind a sync of " + before);
            x.make(true);
            growByCommits(x, before);
            due("sync", x.sync(), Math.min(before, 8));
            growByCommits(x, 9);
            due("waiting", x.count(2), 8);
            due("crash", x.crash(24 * 7 + 23), 7);
            due("size", x.size(0), before + 8);
            due("the last value", x.item(0, before + 7), 8);
        }
    }

    private static void ringAfterCrash() {
        for (int left = 0; left <= 8; left++) {
            KeepHeap x = begin("Terms: up to 8 WAIT, behind a crash that left " + left);
            x.make(true);
            x.commit();
            x.sync();
            growByCommits(x, 8);
            due("crash", x.crash(24 * left), left);
            due("waiting then", x.count(2), 0);
            growByCommits(x, 8);
            due("waiting", x.count(2), 8);
            due("the second crash", x.crash(24), 1);
            due("size", x.size(0), left + 1);
            growByCommits(x, 9);
            due("waiting again", x.count(2), 8);
            due("the third crash", x.crash(0), 0);
            due("size again", x.size(0), left + 2);
        }
    }

    private static void syncs() {
        for (int commits = 0; commits <= 10; commits++) {
            KeepHeap x = begin("14: how many waited; none do then, of " + commits);
            x.make(true);
            growByCommits(x, commits);
            due("sync", x.sync(), Math.min(commits, 8));
            due("waiting", x.count(2), 0);
            due("again", x.sync(), 0);
            due("bytes", x.count(3), 24 * commits);
            due("crash", x.crash(0), 0);
            due("what was kept is safe", x.size(0), commits == 0 ? REFUSED : commits);
        }
        KeepHeap x = begin("14: What is KEPT is SAFE, not what is there");
        makeRow(x, 1);
        x.commit();
        x.push(0, INT, 10);
        x.make(false);
        x.root(1, INT, 1);
        due("sync", x.sync(), 1);
        due("what is there stays, a value", x.size(0), 2);
        due("an object", x.kind(1), 1);
        due("a root", x.rooted(1), 1);
        due("it is not kept", x.undo(), 38);
        x.push(0, INT, 10);
        due("nor safe", x.crash(GREATEST), 0);
        due("size", x.size(0), 1);
    }

    private static void crashes() {
        crashBelowNothing();
        crashWithoutWaiting();
        crashOfBytesThatLieWhole();
        crashOfASmallOneBehind();
        crashCountsBehindWhatIsSafe();
        crashTakesWhatIsNotKept();
        crashIsKeptAndSafe();
    }

    private static void crashBelowNothing() {
        KeepHeap x = begin("15: REFUSED if n is below 0");
        makeRow(x, 1);
        x.commit();
        x.push(0, INT, 1);
        int[] below = {-1, -2, -24, LEAST + 1, LEAST};
        for (int n : below) {
            due("crash " + n, x.crash(n), REFUSED);
        }
        due("what is there stays", x.size(0), 2);
        due("waiting", x.count(2), 1);
        due("bytes", x.count(3), 24);
        due("what is kept stays", x.undo(), 16);
        due("0 is not below", x.crash(0), 0);
        due("objects", x.count(0), 0);
    }

    private static void crashWithoutWaiting() {
        int[] bytes = {0, 1, 8, GREATEST};
        for (int n : bytes) {
            KeepHeap x = begin("15: (or what is SAFE), none wait, crash " + n);
            due("crash of a new object", x.crash(n), 0);
            dueNothingThere(x);
            makeRow(x, 2);
            x.commit();
            x.sync();
            x.pop(0);
            due("crash", x.crash(n), 0);
            due("size", x.size(0), 2);
            due("bytes", x.count(3), 24);
        }
    }

    private static void crashOfBytesThatLieWhole() {
        int[] bytes = {0, 7, 8, 9, 31, 32, 33, 45, 46, 47, 53, 54, 55, GREATEST - 1, GREATEST};
        int[] left = {0, 0, 1, 1, 1, 2, 2, 2, 3, 3, 3, 4, 4, 4, 4};
        int[] whole = {0, 8, 32, 46, 54};
        for (int k = 0; k < bytes.length; k++) {
            KeepHeap x = begin("15: bytes lie whole in the first n, " + bytes[k]);
            x.commit();
            x.make(true);
            x.commit();
            x.root(1, INT, 0);
            x.commit();
            due("the sweep", x.sweep(), 1);
            due("crash", x.crash(bytes[k]), left[k]);
            due("objects", x.count(0), left[k] == 2 || left[k] == 3 ? 1 : 0);
            due("roots", x.count(1), left[k] >= 3 ? 1 : 0);
            due("waiting", x.count(2), 0);
            due("bytes", x.count(3), whole[left[k]]);
        }
    }

    private static void crashOfASmallOneBehind() {
        KeepHeap x = begin("15: only the first ones are left, no small one behind a lost one");
        makeMany(x, 2, true);
        due("a large one", x.commit(), 40);
        commitMany(x, 2);
        due("crash", x.crash(39), 0);
        due("waiting", x.count(2), 0);
        due("bytes", x.count(3), 0);
        dueNothingThere(x);
    }

    private static void crashCountsBehindWhatIsSafe() {
        KeepHeap x = begin("15: in the first n behind what is SAFE");
        makeMany(x, 2, true);
        x.commit();
        x.sync();
        x.push(0, INT, 1);
        x.commit();
        x.push(0, INT, 2);
        x.commit();
        due("crash", x.crash(47), 1);
        due("size", x.size(0), 1);
        due("bytes", x.count(3), 40 + 24);

        x = begin("15: in the first n behind what is SAFE, which the ninth made");
        makeMany(x, 2, true);
        commitMany(x, 9);
        due("crash", x.crash(63), 7);
        due("bytes", x.count(3), 40 + 56);
    }

    private static void crashTakesWhatIsNotKept() {
        KeepHeap x = begin("15: the state behind the last of these is there");
        makeRow(x, 1);
        makeRecord(x, 1);
        makeRoots(x, 1);
        x.commit();
        x.push(0, INT, 1);
        x.set(1, 2, INT, 1);
        x.root(2, INT, 1);
        x.make(false);
        due("all that wait are left", x.crash(GREATEST), 1);
        due("the row", x.size(0), 1);
        due("the record", x.size(1), 1);
        due("roots", x.count(1), 1);
        due("objects", x.count(0), 2);
    }

    private static void crashIsKeptAndSafe() {
        for (int left = 0; left <= 3; left++) {
            KeepHeap x = begin("15: is there, KEPT and SAFE, " + left + " left");
            x.make(true);
            x.commit();
            x.sync();
            growByCommits(x, 3);
            due("crash", x.crash(24 * left), left);
            due("it is kept", x.undo(), 0);
            due("size", x.size(0), left);
            due("it is safe", x.crash(0), 0);
            due("size still", x.size(0), left);
            x.push(0, INT, 77);
            due("against it", x.commit(), 24);
            due("lost", x.crash(23), 0);
            due("size again", x.size(0), left);
            due("bytes", x.count(3), 24 + 24 * left);
        }
    }

    private static void counts() {
        countOfOthers();
        countAtItsBounds();
        countOfLostBytes();
    }

    private static void countOfOthers() {
        KeepHeap x = begin("18: REFUSED for others");
        int[] others = {LEAST, -2, -1, 4, 5, 256, GREATEST};
        for (int what : others) {
            due("count " + what, x.count(what), REFUSED);
        }
    }

    private static void countAtItsBounds() {
        KeepHeap x = begin("18: OBJECTS, ROOTS and those that wait, from none to the most");
        for (int k = 0; k < 100; k++) {
            due("objects", x.count(0), k);
            x.make(k % 2 == 0);
        }
        x.make(true);
        due("100 objects", x.count(0), 100);
        for (int k = 0; k < 12; k++) {
            due("roots", x.count(1), k);
            x.root(k, INT, 0);
        }
        x.root(12, INT, 0);
        due("12 roots", x.count(1), 12);
        for (int k = 0; k < 8; k++) {
            due("waiting", x.count(2), k);
            x.commit();
        }
        x.commit();
        due("8 wait", x.count(2), 8);
    }

    private static void countOfLostBytes() {
        KeepHeap x = begin("18: bytes since the beginning (what was lost does not count)");
        x.make(true);
        x.commit();
        x.sync();
        due("what is safe counts", x.count(3), 24);
        growByCommits(x, 10);
        due("what waits and what became safe count", x.count(3), 24 * 11);
        due("crash", x.crash(24 * 3 + 5), 3);
        due("neither those lost nor parts of them", x.count(3), 24 * 6);
        x.commit();
        due("one more", x.count(3), 24 * 6 + 8);
        due("lost again", x.crash(7), 0);
        due("as before", x.count(3), 24 * 6);
        due("sweep", x.sweep(), 1);
        due("with the sweep", x.count(3), 24 * 6 + 8);
        due("the sweep is lost", x.crash(7), 0);
        due("as before the sweep", x.count(3), 24 * 6);
    }

    private static void longRuns() {
        commitsTo512();
        changesTo512();
        crashesTo512();
    }

    private static void commitsTo512() {
        KeepHeap x = begin("What it is: at most 512 calls, of commits");
        x.make(true);
        due("the first", x.commit(), 24);
        for (int call = 3; call <= 510; call++) {
            due("call " + call, x.commit(), 8);
        }
        due("call 511", x.count(3), 24 + 8 * 508);
        due("call 512", x.crash(GREATEST), 8);
    }

    private static void changesTo512() {
        KeepHeap x = begin("What it is: at most 512 calls, of changes");
        makeRow(x, 1);
        x.commit();
        for (int call = 4; call <= 509; call += 2) {
            due("call " + call, x.put(0, 0, INT, call), 0);
            due("commit", x.commit(), 24);
        }
        due("call 510", x.item(0, 0), 508);
        due("call 511", x.crash(24 * 8 - 1), 7);
        due("call 512", x.item(0, 0), 506);
    }

    private static void crashesTo512() {
        KeepHeap x = begin("What it is: at most 512 calls, of crashes and sweeps");
        for (int round = 0; round < 102; round++) {
            due("make", x.make(round % 2 == 0), 0);
            due("commit", x.commit(), 24);
            due("crash", x.crash(24), 1);
            due("sweep", x.sweep(), 1);
            due("sync", x.sync(), 1);
        }
        due("call 511", x.count(0), 0);
        due("call 512", x.count(3), 102 * 32);
    }
}
