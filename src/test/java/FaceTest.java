import java.lang.reflect.Field;
import java.lang.reflect.Member;
import java.lang.reflect.Method;
import java.lang.reflect.Modifier;
import java.util.Arrays;
import java.util.Set;
import java.util.TreeSet;

/** The class has the document's face and nothing else that others can see; no call ever throws. */
public final class FaceTest {
    private static final Set<String> FACE = new TreeSet<>(Arrays.asList(
        "public int make(boolean)", "public int set(int,int,int,int)", "public long get(int,int)",
        "public int push(int,int,int)", "public long pop(int)", "public int put(int,int,int,int)",
        "public long item(int,int)", "public int root(int,int,int)", "public long rooted(int)",
        "public int commit()", "public int undo()", "public int sweep()", "public int sync()",
        "public int crash(int)", "public int kind(int)", "public int size(int)", "public int count(int)"));
    private static final int[] EDGES = {
        Integer.MIN_VALUE, -2, -1, 0, 1, 2, 3, 4, 7, 8, 11, 12, 19, 20, 21, 99, 100, 101, Integer.MAX_VALUE};

    private static final Answers answers = new Answers();

    public static void main(String[] args) {
        answers.begin("face");
        checkClass();
        checkMethods();
        checkConstants();
        answers.begin("no call throws");
        callWithEdges(new KeepHeap());
        callWithEdges(filled());
        answers.finish();
    }

    private static void checkClass() {
        int modifiers = KeepHeap.class.getModifiers();
        answers.due("public final", modifiers, Modifier.PUBLIC | Modifier.FINAL);
        answers.due("constructors", KeepHeap.class.getDeclaredConstructors().length, 1);
        answers.due("public constructors", KeepHeap.class.getConstructors().length, 1);
        answers.due("interfaces", KeepHeap.class.getInterfaces().length, 0);
        answers.due("of no other class", KeepHeap.class.getSuperclass() == Object.class ? 1 : 0, 1);
        for (Class<?> inside : KeepHeap.class.getDeclaredClasses()) {
            answers.due(inside + " is static", inside.getModifiers() & Modifier.STATIC, Modifier.STATIC);
            int seen = inside.getModifiers() & (Modifier.PUBLIC | Modifier.PROTECTED);
            answers.due(inside + " is neither public nor protected", seen, 0);
        }
    }

    private static void checkMethods() {
        Set<String> seen = new TreeSet<>();
        Set<String> publicNames = new TreeSet<>();
        for (Method method : KeepHeap.class.getDeclaredMethods()) {
            if (isVisible(method)) {
                seen.add(signature(method));
                publicNames.add(method.getName());
            }
        }
        answers.due("methods " + seen + " are " + FACE, seen.equals(FACE) ? 1 : 0, 1);
        for (Method method : KeepHeap.class.getDeclaredMethods()) {
            boolean clash = !isVisible(method) && publicNames.contains(method.getName());
            answers.due("private " + method.getName() + " bears a public name", clash ? 1 : 0, 0);
        }
    }

    private static void checkConstants() {
        Set<String> seen = new TreeSet<>();
        for (Field field : KeepHeap.class.getDeclaredFields()) {
            if (isVisible(field)) {
                seen.add(Modifier.toString(field.getModifiers()) + " " + field.getType() + " " + field.getName());
            }
        }
        Set<String> due = new TreeSet<>(Arrays.asList(
            "public static final int REFUSED", "public static final int FULL"));
        answers.due("constants " + seen, seen.equals(due) ? 1 : 0, 1);
        answers.due("REFUSED", KeepHeap.REFUSED, -1);
        answers.due("FULL", KeepHeap.FULL, -3);
    }

    private static boolean isVisible(Member member) {
        return !Modifier.isPrivate(member.getModifiers());
    }

    private static String signature(Method method) {
        StringBuilder text = new StringBuilder();
        for (Class<?> type : method.getParameterTypes()) {
            text.append(text.length() == 0 ? "" : ",").append(type);
        }
        String before = Modifier.toString(method.getModifiers()) + " " + method.getReturnType();
        return before + " " + method.getName() + "(" + text + ")";
    }

    /** A heap with all 100 objects, some of them full, and all roots. */
    private static KeepHeap filled() {
        KeepHeap heap = new KeepHeap();
        for (int o = 0; o < 100; o++) {
            heap.make(o % 2 == 1);
        }
        for (int k = 0; k < 20; k++) {
            heap.set(0, k, 2, k);
            heap.push(1, 2, 99 - k);
            heap.root(k, 2, k);
        }
        heap.commit();
        return heap;
    }

    private static void callWithEdges(KeepHeap heap) {
        for (int a : EDGES) {
            for (int b : EDGES) {
                for (int c : EDGES) {
                    callWith(heap, a, b, c);
                }
            }
        }
    }

    private static void callWith(KeepHeap heap, int a, int b, int c) {
        try {
            heap.set(a, b, c, a);
            heap.get(a, b);
            heap.push(a, b, c);
            heap.put(a, b, c, c);
            heap.item(a, b);
            heap.root(a, b, c);
            heap.rooted(a);
            heap.kind(a);
            heap.size(a);
            heap.count(a);
            if (c == a) {
                heap.pop(a);
                heap.commit();
                heap.crash(b);
                heap.sweep();
                heap.undo();
                heap.sync();
            }
        } catch (RuntimeException thrown) {
            answers.due("calls with " + a + ", " + b + ", " + c + " threw " + thrown, 1, 0);
        }
    }
}
