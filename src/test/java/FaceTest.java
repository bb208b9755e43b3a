import java.lang.reflect.Array;
import java.lang.reflect.Constructor;
import java.lang.reflect.Field;
import java.lang.reflect.Method;
import java.lang.reflect.Modifier;
import java.nio.file.Files;
import java.nio.file.Path;
import java.util.ArrayList;
import java.util.Arrays;
import java.util.IdentityHashMap;
import java.util.List;
import java.util.TreeSet;
import java.util.regex.Pattern;

/** The public face, the words that the language rules leave out, and the room that an object takes. */
public final class FaceTest {
    private static final String[] FACE = {
        "boolean accept(int,int)", "int about(int)", "int change(int,int,int)", "int changes(int)", "int end(int)",
        "boolean fade(int,int)", "int fault(int)", "int feed(int,int,int,int,int)", "int fix(int,int,int)",
        "boolean forget(int)", "int from(int,int,int,int)", "int golden(int,int,int,int)", "int hand(int,int,boolean)",
        "int later(int)", "int person(int,int,int)", "int persons(int,int)", "boolean refuse(int,int)",
        "boolean rights(int,int)", "int row(int)", "int rules()", "int score(int,int,int,int)", "int set(int,int,int,int)",
        "int torn(int,int,int,int)", "boolean trust(int,int,int)", "boolean unfix(int)", "boolean unhand(int)",
        "int value(int,int,int,int)", "int worth(int,int)"};
    private static final String[] LEFT_OUT = {"throw", "throws", "try", "catch", "finally", "synchronized", "assert", "new Object",
        "System", "Thread", "import", "Exception", "Error", "public .*static .*\\(", "protected", "->", "::", "Exact\\b", "instanceof"};
    private static final Check c = new Check("FaceTest");

    public static void main(String[] args) throws Exception {
        face();
        classesInside();
        source();
        room();
        wildCalls();
        c.close();
    }

    private static String told(Method m) {
        StringBuilder b = new StringBuilder(m.getReturnType().getName()).append(' ').append(m.getName()).append('(');
        for (int i = 0; i < m.getParameterCount(); i++) {
            b.append(i > 0 ? "," : "").append(m.getParameterTypes()[i].getName());
        }
        return b.append(')').toString();
    }

    private static void face() {
        TreeSet<String> found = new TreeSet<>();
        TreeSet<String> names = new TreeSet<>();
        for (Method m : GoldenRows.class.getDeclaredMethods()) {
            if (Modifier.isPublic(m.getModifiers())) {
                c.due("not static: " + m, false, Modifier.isStatic(m.getModifiers()));
                found.add(told(m));
                names.add(m.getName());
            } else {
                c.due("private: " + m, true, Modifier.isPrivate(m.getModifiers()));
            }
        }
        c.due("the methods " + found, true, found.equals(new TreeSet<>(Arrays.asList(FACE))));
        c.due("28 methods", 28, found.size());
        for (Class<?> inside : GoldenRows.class.getDeclaredClasses()) {
            for (Method m : inside.getDeclaredMethods()) {
                c.due("no public method's name: " + m, false, names.contains(m.getName()));
            }
        }
        for (Method m : GoldenRows.class.getDeclaredMethods()) {
            c.due("no public method's name: " + m, false, Modifier.isPrivate(m.getModifiers()) && names.contains(m.getName()));
        }
        for (Field f : GoldenRows.class.getDeclaredFields()) {
            c.due("private but NONE: " + f, !f.getName().equals("NONE"), Modifier.isPrivate(f.getModifiers()));
        }
        Constructor<?>[] made = GoldenRows.class.getDeclaredConstructors();
        c.due("one constructor", 1, made.length);
        c.due("public", true, Modifier.isPublic(made[0].getModifiers()) && made[0].getParameterCount() == 0);
        c.due("the class is final", true, Modifier.isFinal(GoldenRows.class.getModifiers()));
    }

    private static void classesInside() {
        Class<?>[] inside = GoldenRows.class.getDeclaredClasses();
        c.due("twelve classes at most", true, inside.length + 1 <= 12);
        List<Class<?>> all = new ArrayList<>(Arrays.asList(inside));
        all.add(GoldenRows.class);
        for (Class<?> one : all) {
            int fields = 0;
            for (Field f : one.getDeclaredFields()) {
                if (Modifier.isStatic(f.getModifiers())) {
                    c.due("a constant: " + f, true, Modifier.isFinal(f.getModifiers()) && f.getType().isPrimitive());
                } else {
                    fields++;
                }
            }
            c.due("fields of " + one, true, fields <= 20);
            for (Method m : one.getDeclaredMethods()) {
                c.due("seven parameters at most: " + m, true, m.getParameterCount() <= 7);
            }
        }
        for (Class<?> one : inside) {
            c.due("static and private: " + one, true, Modifier.isStatic(one.getModifiers()) && Modifier.isPrivate(one.getModifiers()));
        }
    }

    private static void source() throws Exception {
        String text = Files.readString(Path.of(System.getProperty("source", "src/main/java/GoldenRows.java")));
        String code = text.replaceAll("(?s)/\\*.*?\\*/", "").replaceAll("//[^\\n]*", "").replaceAll("\"[^\"\\n]*\"", "\"\"");
        for (String word : LEFT_OUT) {
            String pattern = word.matches("[A-Za-z]+") ? "\\b" + word + "\\b" : word;
            c.due("left out: " + word, false, Pattern.compile(pattern).matcher(code).find());
        }
        c.due("no outside package", false, code.contains("package "));
    }

    /** Counts the objects and arrays that hang on an object, and their fields and elements. */
    private static long[] count(Object root) throws Exception {
        IdentityHashMap<Object, Boolean> met = new IdentityHashMap<>();
        List<Object> open = new ArrayList<>(List.of(root));
        long cells = 0;
        while (!open.isEmpty()) {
            Object one = open.remove(open.size() - 1);
            if (met.put(one, true) != null) {
                continue;
            }
            if (one.getClass().isArray()) {
                cells += Array.getLength(one);
                continue;
            }
            for (Field f : one.getClass().getDeclaredFields()) {
                if (!Modifier.isStatic(f.getModifiers())) {
                    cells++;
                    f.setAccessible(true);
                    if (!f.getType().isPrimitive()) {
                        open.add(f.get(one));
                    }
                }
            }
        }
        return new long[] {met.size(), cells};
    }

    /** A run has room for 600,000 objects and 7,300,000 cells: enough even if each of 512 calls made an object. */
    private static void room() throws Exception {
        GoldenRows x = new GoldenRows();
        long[] before = count(x);
        c.due("objects, " + before[0], true, before[0] * 512 <= 600_000);
        c.due("cells, " + before[1], true, before[1] * 512 <= 7_300_000);
        Check.rules(x, "link 3 when same 0 or not near 1 5 and source;");
        for (int i = 0; i < 10; i++) {
            x.row(i % 6);
            x.set(i, 0, i % 3, 0);
        }
        x.rights(0, 63);
        x.persons(0, 0);
        x.changes(0);
        long[] after = count(x);
        c.due("no object more", before[0], after[0]);
        c.due("no cell more", before[1], after[1]);
    }

    /** Every method with every mix of odd numbers, on an empty and on a full object: none throws. */
    private static void wildCalls() throws Exception {
        int[] odd = {Integer.MIN_VALUE, -1000001, -2, -1, 0, 1, 5, 6, 9, 10, 20, 60, 150, 500, 1000000, Integer.MAX_VALUE};
        for (int full = 0; full < 2; full++) {
            GoldenRows x = new GoldenRows();
            for (int i = 0; i < 10 && full == 1; i++) {
                x.row(i % 6);
                x.set(i, i % 6, i, i);
                x.rights(i % 6, 63);
                x.hand(i, 0, i % 2 == 0);
                x.fix(i, 5, i);
            }
            int calls = 0;
            for (Method m : GoldenRows.class.getMethods()) {
                if (m.getDeclaringClass() == GoldenRows.class) {
                    calls += wild(x, m, odd);
                }
            }
            c.due("calls made", true, calls > 10000);
        }
    }

    private static int wild(GoldenRows x, Method m, int[] odd) throws Exception {
        int count = m.getParameterCount();
        int mixes = (int) Math.min(20000, Math.pow(odd.length, count));
        for (int mix = 0; mix < mixes; mix++) {
            Object[] args = new Object[count];
            // A step that shares no factor with the mixes spreads over them where there are too many.
            long left = mixes == 20000 ? mix * 7919L : mix;
            for (int i = 0; i < count; i++) {
                int one = odd[(int) (left % odd.length)];
                args[i] = m.getParameterTypes()[i] == boolean.class ? (Object) (one > 0) : (Object) one;
                left /= odd.length;
            }
            m.invoke(x, args);
        }
        return mixes;
    }
}
