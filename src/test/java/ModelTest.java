import java.util.ArrayList;
import java.util.HashMap;
import java.util.LinkedHashMap;
import java.util.List;
import java.util.Map;
import java.util.Random;

/**
 * Long runs of drawn calls (always the same ones), each answer held against a second, slower
 * reading of the document that copies every state whole.
 */
public final class ModelTest {
    private static final int RUNS = 4000, CALLS = 512;

    public static void main(String[] args) {
        Answers answers = new Answers();
        for (int run = 0; run < RUNS && !answers.anyWrong(); run++) {
            answers.begin("run " + run);
            new Run(answers, run).play();
        }
        answers.finish();
    }

    /** One object of the heap: a record's fields in their order, or a row's values. */
    private static final class Thing {
        final boolean row;
        final LinkedHashMap<Integer, Long> fields = new LinkedHashMap<>();
        final List<Long> items = new ArrayList<>();

        Thing(boolean row) {
            this.row = row;
        }

        Thing copy() {
            Thing other = new Thing(row);
            other.fields.putAll(fields);
            other.items.addAll(items);
            return other;
        }

        boolean same(Thing other) {
            return other != null && row == other.row && items.equals(other.items)
                && new ArrayList<>(fields.entrySet()).equals(new ArrayList<>(other.fields.entrySet()));
        }

        List<Long> values() {
            return row ? items : new ArrayList<>(fields.values());
        }
    }

    private static final class Picture {
        final Map<Integer, Thing> things = new HashMap<>();
        final Map<Integer, Long> roots = new HashMap<>();

        Picture copy() {
            Picture other = new Picture();
            things.forEach((number, thing) -> other.things.put(number, thing.copy()));
            other.roots.putAll(roots);
            return other;
        }
    }

    private static final class Entry {
        final Picture behind;
        final int bytes;

        Entry(Picture behind, int bytes) {
            this.behind = behind;
            this.bytes = bytes;
        }
    }

    /** The second reading of the document. */
    private static final class Model {
        Picture now = new Picture();
        Picture kept = new Picture();
        Picture safe = new Picture();
        final List<Entry> entries = new ArrayList<>();
        int bytes = 0;

        Long value(int sort, int v) {
            if (sort == 0) {
                return Answers.NIL;
            }
            if (sort == 1) {
                return (long) v;
            }
            return sort == 2 && now.things.containsKey(v) ? Long.valueOf(Answers.object(v)) : null;
        }

        Thing thing(int o, boolean row) {
            Thing thing = now.things.get(o);
            return thing != null && thing.row == row ? thing : null;
        }

        int make(boolean row) {
            for (int o = 0; o < 100; o++) {
                if (!now.things.containsKey(o)) {
                    now.things.put(o, new Thing(row));
                    return o;
                }
            }
            return -3;
        }

        int assign(Map<Integer, Long> map, int name, Long value, int most) {
            if (map == null || value == null) {
                return -1;
            }
            if (value == Answers.NIL) {
                map.remove(name);
            } else if (map.containsKey(name) || map.size() < most) {
                map.put(name, value);
            } else {
                return -3;
            }
            return map.size();
        }

        int set(int o, int name, int sort, int v) {
            Thing record = thing(o, false);
            return assign(record == null ? null : record.fields, name, value(sort, v), 8);
        }

        long get(int o, int name) {
            Thing record = thing(o, false);
            return record == null ? Answers.NONE : record.fields.getOrDefault(name, Answers.NIL);
        }

        int push(int o, int sort, int v) {
            Thing row = thing(o, true);
            Long value = value(sort, v);
            if (row == null || value == null) {
                return -1;
            }
            if (row.items.size() == 20) {
                return -3;
            }
            row.items.add(value);
            return row.items.size();
        }

        long pop(int o) {
            Thing row = thing(o, true);
            return row == null || row.items.isEmpty() ? Answers.NONE : row.items.remove(row.items.size() - 1);
        }

        int put(int o, int k, int sort, int v) {
            Thing row = thing(o, true);
            Long value = value(sort, v);
            if (row == null || value == null || k < 0 || k >= row.items.size()) {
                return -1;
            }
            row.items.set(k, value);
            return 0;
        }

        long item(int o, int k) {
            Thing row = thing(o, true);
            return row == null || k < 0 || k >= row.items.size() ? Answers.NONE : row.items.get(k);
        }

        int changed() {
            int sum = 0;
            for (Map.Entry<Integer, Thing> there : now.things.entrySet()) {
                sum += there.getValue().same(kept.things.get(there.getKey())) ? 0 : 16;
            }
            Map<Integer, Long> names = new HashMap<>(now.roots);
            names.putAll(kept.roots);
            for (Integer name : names.keySet()) {
                Long before = kept.roots.get(name);
                Long after = now.roots.get(name);
                sum += before != null && before.equals(after) ? 0 : 6;
            }
            return sum;
        }

        void keep(int written) {
            kept = now.copy();
            entries.add(new Entry(now.copy(), written));
            bytes += written;
            if (entries.size() > 8) {
                safe = entries.remove(0).behind;
            }
        }

        int commit() {
            int written = 8 + changed();
            keep(written);
            return written;
        }

        int undo() {
            int sum = changed();
            now = kept.copy();
            return sum;
        }

        int sweep() {
            now = kept.copy();
            Map<Integer, Thing> reached = new HashMap<>();
            follow(new ArrayList<>(now.roots.values()), reached);
            int gone = now.things.size() - reached.size();
            now.things.keySet().retainAll(reached.keySet());
            if (gone > 0) {
                keep(8);
            }
            return gone;
        }

        void follow(List<Long> values, Map<Integer, Thing> reached) {
            for (long value : values) {
                int o = value > Answers.NIL ? (int) (value - Answers.NIL - 1) : -1;
                if (o >= 0 && !reached.containsKey(o)) {
                    reached.put(o, now.things.get(o));
                    follow(now.things.get(o).values(), reached);
                }
            }
        }

        int sync() {
            int waited = entries.size();
            safe = kept.copy();
            entries.clear();
            return waited;
        }

        int crash(int n) {
            if (n < 0) {
                return -1;
            }
            int left = 0;
            long sum = 0;
            boolean lost = false;
            for (Entry entry : entries) {
                sum += entry.bytes;
                lost = lost || sum > n;
                if (lost) {
                    bytes -= entry.bytes;
                } else {
                    left++;
                    safe = entry.behind;
                }
            }
            entries.clear();
            kept = safe.copy();
            now = safe.copy();
            return left;
        }

        int kind(int o) {
            Thing thing = now.things.get(o);
            return o < 0 || o > 99 ? -1 : thing == null ? 0 : thing.row ? 2 : 1;
        }

        int size(int o) {
            Thing thing = now.things.get(o);
            return thing == null ? -1 : thing.values().size();
        }

        int count(int what) {
            switch (what) {
                case 0: return now.things.size();
                case 1: return now.roots.size();
                case 2: return entries.size();
                case 3: return bytes;
                default: return -1;
            }
        }
    }

    /** One run: how many objects and names it plays with, and how often it keeps, is drawn too. */
    private static final class Run {
        final Answers answers;
        final Random random;
        final KeepHeap heap = new KeepHeap();
        final Model model = new Model();
        final int objects, names, keeping, making;

        Run(Answers answers, int seed) {
            this.answers = answers;
            random = new Random(seed);
            objects = seed % 5 == 0 ? 104 : 1 + random.nextInt(8);
            names = 1 + random.nextInt(15);
            keeping = 5 + random.nextInt(60);
            making = objects > 100 ? 50 : 4 + random.nextInt(20);
        }

        void play() {
            for (int call = 0; call < CALLS; call++) {
                int drawn = random.nextInt(100);
                if (random.nextInt(100) < making) {
                    makeSome();
                } else if (random.nextInt(100) < keeping) {
                    keepOrLose(drawn);
                } else if (drawn < 70) {
                    change(drawn % 7);
                } else {
                    look(drawn % 6);
                }
            }
        }

        int number() {
            return random.nextInt(40) == 0 ? random.nextInt(140) - 20 : random.nextInt(objects);
        }

        int name() {
            return random.nextInt(names) - 3;
        }

        int sort() {
            return random.nextInt(30) == 0 ? random.nextInt(6) - 2 : random.nextInt(3);
        }

        int plain(int sort) {
            return sort == 2 ? number() : random.nextInt(3) - 1;
        }

        void makeSome() {
            boolean row = random.nextBoolean();
            if (model.count(0) < objects) {
                answers.due("make", heap.make(row), model.make(row));
            }
        }

        void change(int which) {
            int o = number(), name = name(), k = random.nextInt(22) - 1, sort = sort(), v = plain(sort);
            String with = "(" + o + ", " + name + ", " + k + ", " + sort + ", " + v + ")";
            switch (which) {
                case 0: case 1:
                    answers.due("set" + with, heap.set(o, name, sort, v), model.set(o, name, sort, v));
                    break;
                case 2: case 3:
                    answers.due("push" + with, heap.push(o, sort, v), model.push(o, sort, v));
                    break;
                case 4:
                    answers.due("pop" + with, heap.pop(o), model.pop(o));
                    break;
                case 5:
                    answers.due("put" + with, heap.put(o, k, sort, v), model.put(o, k, sort, v));
                    break;
                default:
                    answers.due("root" + with, heap.root(name, sort, v),
                        model.assign(model.now.roots, name, model.value(sort, v), 12));
            }
        }

        void keepOrLose(int drawn) {
            if (drawn < 60) {
                answers.due("commit", heap.commit(), model.commit());
            } else if (drawn < 75) {
                answers.due("undo", heap.undo(), model.undo());
            } else if (drawn < 87) {
                answers.due("sweep", heap.sweep(), model.sweep());
            } else if (drawn < 91) {
                answers.due("sync", heap.sync(), model.sync());
            } else {
                int n = random.nextInt(drawn % 2 == 0 ? 100 : 600) - 4;
                answers.due("crash(" + n + ")", heap.crash(n), model.crash(n));
            }
        }

        void look(int which) {
            int o = number(), name = name(), k = random.nextInt(22) - 1, what = random.nextInt(6) - 1;
            switch (which) {
                case 0:
                    answers.due("get(" + o + ", " + name + ")", heap.get(o, name), model.get(o, name));
                    break;
                case 1:
                    answers.due("item(" + o + ", " + k + ")", heap.item(o, k), model.item(o, k));
                    break;
                case 2:
                    answers.due("rooted(" + name + ")", heap.rooted(name),
                        model.now.roots.getOrDefault(name, Answers.NIL));
                    break;
                case 3:
                    answers.due("kind(" + o + ")", heap.kind(o), model.kind(o));
                    break;
                case 4:
                    answers.due("size(" + o + ")", heap.size(o), model.size(o));
                    break;
                default:
                    answers.due("count(" + what + ")", heap.count(what), model.count(what));
            }
        }
    }
}
