import java.lang.management.ManagementFactory;
import java.lang.reflect.Array;
import java.lang.reflect.Constructor;
import java.lang.reflect.Field;
import java.lang.reflect.Method;
import java.lang.reflect.Modifier;
import java.util.ArrayDeque;
import java.util.Collections;
import java.util.Deque;
import java.util.IdentityHashMap;
import java.util.Set;
import java.util.TreeSet;

/** The public face as the document tells it, any numbers in any call, and the room. */
public final class FaceTest {
    private static final Check CHECK = new Check("FaceTest");
    private static final String[] FACE = {
        "int write(int,long)", "int wipe()", "int fault()", "int lay()", "int price(int,boolean)", "int word(int,int)",
        "int clear(int)", "int quote(int,int)", "long trees(int,int)", "int part(int,int,int,int,int)",
        "int least(int,boolean)", "int mend(int,int,int)", "int heaps(int,int,int)", "int bars(int)", "int keep(int,int)",
        "int kept(int)", "int byRule(int)", "int theirs(int)", "int err(int)", "int gone(int,int)", "int count(int)"};

    public static void main(String[] args) throws Exception {
        face();
        anyNumbers();
        roomOfOne();
        roomOfCalls();
        CHECK.end();
    }

    private static void dueTrue(String what, boolean holds) {
        CHECK.due(what, holds ? 1 : 0, 1);
    }

    private static void face() throws Exception {
        Class<?> c = OneWordWrong.class;
        dueTrue("public and final", Modifier.isPublic(c.getModifiers()) && Modifier.isFinal(c.getModifiers()));
        Set<String> seen = new TreeSet<>();
        Set<String> names = new TreeSet<>();
        for (Method m : c.getDeclaredMethods()) {
            if (Modifier.isPrivate(m.getModifiers())) continue;
            StringBuilder face = new StringBuilder(m.getReturnType() + " " + m.getName() + "(");
            for (Class<?> p : m.getParameterTypes()) face.append(face.charAt(face.length() - 1) == '(' ? "" : ",").append(p);
            seen.add(face.append(")").toString());
            names.add(m.getName());
            dueTrue(m + " is public and not static", Modifier.isPublic(m.getModifiers()) && !Modifier.isStatic(m.getModifiers()));
        }
        dueTrue("methods " + seen, seen.equals(Set.of(FACE)));
        for (Method m : c.getDeclaredMethods()) {
            dueTrue(m + " bears a name of its own", !Modifier.isPrivate(m.getModifiers()) || !names.contains(m.getName()));
        }
        Constructor<?>[] made = c.getDeclaredConstructors();
        dueTrue("one constructor", made.length == 1 && made[0].getParameterCount() == 0 && Modifier.isPublic(made[0].getModifiers()));
        Set<String> constants = new TreeSet<>();
        for (Field f : c.getDeclaredFields()) {
            if (!Modifier.isPrivate(f.getModifiers())) constants.add(Modifier.toString(f.getModifiers()) + " " + f.getType() + " " + f.getName());
            dueTrue(f + " is final if static", !Modifier.isStatic(f.getModifiers()) || Modifier.isFinal(f.getModifiers()));
        }
        dueTrue("constants " + constants, constants.equals(Set.of("public static final int BAD", "public static final int NO",
                "public static final int FULL", "public static final int NONE")));
        CHECK.due("BAD", OneWordWrong.BAD, -1);
        CHECK.due("NO", OneWordWrong.NO, -2);
        CHECK.due("FULL", OneWordWrong.FULL, -3);
        CHECK.due("NONE", OneWordWrong.NONE, -4);
    }

    private static long callAny(OneWordWrong x, int method, int a, int b, int c) {
        switch (method) {
            case 0: return x.write(a, b);
            case 1: return x.fault();
            case 2: return x.price(a, b > 0);
            case 3: return x.word(a, b);
            case 4: return x.clear(a);
            case 5: return x.quote(a, b);
            case 6: return x.trees(a, b);
            case 7: return x.part(a, b, c, b, c) + x.part(0, a, b, 0, c) + x.part(0, 0, 1, a, b);
            case 8: return x.least(a, b > 0);
            case 9: return x.mend(a, b, c);
            case 10: return x.heaps(a, b, c);
            case 11: return x.bars(a);
            case 12: return x.keep(a, b);
            case 13: return x.kept(a);
            case 14: return x.byRule(a);
            case 15: return x.theirs(a);
            case 16: return x.err(a);
            case 17: return x.gone(a, b);
            case 18: return x.count(a);
            case 19: return a == 1 ? x.lay() : 0;
            default: return a == 2 ? x.wipe() : 0;
        }
    }

    /** An object with SENTENCES, KEPT ones and errors, as far as the text has WORDS. */
    private static OneWordWrong used(String text) {
        OneWordWrong x = Check.laid(text);
        for (int k = 0; k < 8; k++) x.word(0, k % 4);
        x.word(1, 0);
        x.word(1, 3);
        x.quote(1, 2);
        x.keep(1, 0);
        x.keep(1, 1);
        x.err(3);
        x.mend(1, -1, 0);
        return x;
    }

    /** No call may throw, whatever the numbers and whatever went before; each answer is one that is told. */
    private static void anyNumbers() {
        int[] odd = {Integer.MIN_VALUE, -2, -1, 0, 1, 2, 3, 7, 8, 9, 10, 40, 99, 255, 256, Integer.MAX_VALUE};
        String[] texts = {"", "w0,0,0,0;", "w1,0,0,0;w1,1,0,1;w2,0,1,2;w2,1,1,3;r0,1,2,1,0;r1,1,1,1,1;"};
        for (String text : texts) {
            boolean told = true;
            OneWordWrong x = used(text);
            int calls = 0;
            for (int method = 0; method <= 20; method++) {
                for (int a : odd) for (int b : odd) for (int c : odd) {
                    told &= callAny(x, method, a, b, c) >= -12;
                    calls += method == 7 ? 3 : 1;
                    if (calls > 460) {
                        x = used(text);
                        calls = 0;
                    }
                }
            }
            dueTrue("any numbers on " + text, told);
        }
    }

    private static void roomOfOne() throws IllegalAccessException {
        Set<Object> seen = Collections.newSetFromMap(new IdentityHashMap<>());
        Deque<Object> open = new ArrayDeque<>();
        open.add(new OneWordWrong());
        long cells = 0;
        while (!open.isEmpty()) {
            Object o = open.poll();
            if (!seen.add(o)) continue;
            if (o.getClass().isArray()) {
                cells += Array.getLength(o);
                if (o instanceof Object[]) for (Object e : (Object[]) o) if (e != null) open.add(e);
                continue;
            }
            for (Class<?> c = o.getClass(); c != Object.class; c = c.getSuperclass()) {
                for (Field f : c.getDeclaredFields()) {
                    if (Modifier.isStatic(f.getModifiers())) continue;
                    cells++;
                    f.setAccessible(true);
                    if (!f.getType().isPrimitive() && f.get(o) != null) open.add(f.get(o));
                }
            }
        }
        System.out.println("FaceTest: an object takes " + seen.size() + " objects and arrays, " + cells + " fields and elements");
        // a hundred of them shall have room in one run
        dueTrue("objects and arrays of one", seen.size() <= 6000);
        dueTrue("fields and elements of one", cells <= 73000);
    }

    /** The dearest calls of a run: as each field or element takes a byte at least, fewer bytes than these keep to the room. */
    private static void roomOfCalls() {
        com.sun.management.ThreadMXBean threads = (com.sun.management.ThreadMXBean) ManagementFactory.getThreadMXBean();
        StringBuilder text = new StringBuilder();
        for (int w = 0; w < 14; w++) text.append("w" + w % 3 + "," + w % 4 + "," + w + "," + w + ";");
        for (int r = 0; r < 20; r++) text.append("r" + r % 3 + "," + r % 2 + "," + r % 3 + ",1," + r % 2 + ";");
        long most = 0;
        long sum = 0;
        for (int turn = 0; turn < 4; turn++) {
            OneWordWrong x = Check.laid(text.toString());
            long before = threads.getThreadAllocatedBytes(Thread.currentThread().getId());
            for (int k = 0; k < 26; k++) {
                for (int p = 0; p < 8; p++) x.word(0, 1 + p);
                x.quote(0, k % 2);
                sum += x.mend(0, k, k % 10) + x.heaps(0, 1, k % 3) + x.bars(0) + x.least(0, false) + x.trees(0, -1)
                        + x.keep(0, 0) + x.lay() * 0L + x.fault();
            }
            most = Math.max(most, threads.getThreadAllocatedBytes(Thread.currentThread().getId()) - before);
        }
        System.out.println("FaceTest: a run of calls made " + most + " bytes (" + sum + ")");
        dueTrue("calls keep to the room", most < 7300000);
    }
}
