import java.lang.management.ManagementFactory;
import java.lang.reflect.Constructor;
import java.lang.reflect.Field;
import java.lang.reflect.Member;
import java.lang.reflect.Method;
import java.lang.reflect.Modifier;
import java.nio.charset.StandardCharsets;
import java.nio.file.Files;
import java.nio.file.Path;
import java.util.Arrays;
import java.util.Set;
import java.util.TreeSet;
import java.util.regex.Matcher;
import java.util.regex.Pattern;

/** The face of the class, some rules of the language, and that calls make no objects. */
public final class FaceTest {
    private static int wrongs = 0;

    public static void main(String[] args) throws Exception {
        face();
        language();
        room();
        System.out.println(wrongs == 0 ? "the face is as told" : wrongs + " faults");
        if (wrongs > 0) {
            System.exit(1);
        }
    }

    private static void fault(String what) {
        wrongs++;
        System.out.println(what);
    }

    private static void face() {
        Set<String> want = new TreeSet<>(Arrays.asList(
            "int BAD", "int NO", "int FULL", "int NONE", "new ()", "int write(int, long)", "int wipe()", "int fault()", "int lay()",
            "int player(int, int)", "int part(int, int)", "int both(int, int)", "long ways(int, int)",
            "int least(int, int, int)", "int cuts(int, int)", "int lines(int, int)", "int rehearse(int, int)",
            "int rehearsals(int, int)", "int rest(int)", "int cold(int, int, int)", "int weak(int, int)",
            "int engaged(int, int)", "int fewest()", "int night(int)", "int owed(int)", "int told(int, int)", "int wrong()",
            "int run(int, int, int)", "int keep()", "int back()", "int count(int)"));
        Set<String> got = new TreeSet<>();
        Class<?> c = OnByThursday.class;
        for (Field f : c.getDeclaredFields()) {
            if (isSeen(f)) got.add(f.getType() + " " + f.getName());
            if (Modifier.isStatic(f.getModifiers()) && !Modifier.isFinal(f.getModifiers())) fault("not final: " + f);
        }
        for (Method m : c.getDeclaredMethods()) {
            if (isSeen(m)) got.add(m.getReturnType() + " " + m.getName() + types(m.getParameterTypes()));
        }
        for (Constructor<?> k : c.getDeclaredConstructors()) {
            if (isSeen(k)) got.add("new " + types(k.getParameterTypes()));
        }
        if (!got.equals(want)) fault("the face is " + got);
        if (!Modifier.isFinal(c.getModifiers()) || !Modifier.isPublic(c.getModifiers())) fault("not public and final");
        for (Class<?> inner : c.getDeclaredClasses()) {
            if (!Modifier.isStatic(inner.getModifiers())) fault("not static: " + inner);
            if (inner.getDeclaredFields().length > 24) fault("many fields: " + inner);
        }
        if (c.getDeclaredClasses().length > 11) fault("many classes");
        methods(c, c);
        for (Class<?> inner : c.getDeclaredClasses()) methods(c, inner);
    }

    /** Rules 1 and 11: no other method bears a name of the face, and none takes more than seven. */
    private static void methods(Class<?> outer, Class<?> c) {
        Set<String> names = new TreeSet<>();
        for (Method m : outer.getDeclaredMethods()) {
            if (isSeen(m)) names.add(m.getName());
        }
        for (Method m : c.getDeclaredMethods()) {
            if ((c != outer || !isSeen(m)) && names.contains(m.getName())) fault("a name of the face: " + m);
            if (m.getParameterCount() > 7) fault("many parameters: " + m);
        }
    }

    private static boolean isSeen(Member m) {
        return !Modifier.isPrivate(m.getModifiers()) && !m.isSynthetic();
    }

    private static String types(Class<?>[] types) {
        String joined = Arrays.toString(types);
        return "(" + joined.substring(1, joined.length() - 1) + ")";
    }

    private static void language() throws Exception {
        Path file = Path.of("src/main/java/OnByThursday.java");
        String source = new String(Files.readAllBytes(file), StandardCharsets.ISO_8859_1);
        String code = source.replaceAll("(?s)/\\*.*?\\*/", "").replaceAll("//[^\n]*", "");
        String[] never = {"\\bthrow\\b", "\\btry\\b", "\\bcatch\\b", "\\bsynchronized\\b", "\\bassert\\b", "->", "::", "\\bThread\\b",
            "\\bRandom\\b", "Exact\\b", "\\bdouble\\b", "\\bfloat\\b", "\\bpackage\\b", "\\bstatic\\s*\\{", "\\bnative\\b"};
        for (String n : never) {
            Matcher m = Pattern.compile(n).matcher(code);
            if (m.find()) fault("not allowed: " + m.group());
        }
        Matcher imports = Pattern.compile("import ([^;]*);").matcher(code);
        while (imports.find()) {
            if (!imports.group(1).equals("java.util.Arrays")) fault("import " + imports.group(1));
        }
        for (int b = 0; b < source.length(); b++) {
            if (source.charAt(b) > 126) fault("a sign beyond 126 at " + b);
        }
    }

    /** All rows are made with the object: a call that makes more would fill the room. */
    private static void room() {
        com.sun.management.ThreadMXBean beans = (com.sun.management.ThreadMXBean) ManagementFactory.getThreadMXBean();
        if (!beans.isThreadAllocatedMemorySupported()) return;
        long id = Thread.currentThread().getId();
        askAll(new OnByThursday());
        OnByThursday x = new OnByThursday();
        long before = beans.getThreadAllocatedBytes(id);
        for (int n = 0; n < 20; n++) askAll(x);
        long made = beans.getThreadAllocatedBytes(id) - before;
        if (made > 2000) fault("20 times all calls make " + made + " bytes");
    }

    private static void askAll(OnByThursday x) {
        x.wipe();
        x.write(8, 0x6135302c303b6135L);
        x.write(8, 0x302c303b70302c30L);
        x.write(8, 0x2c31302c303b6f30L);
        x.write(3, 0x2c303bL);
        if (x.fault() != -4 || x.lay() != 2) fault("not laid");
        x.player(0, 4);
        x.part(0, 4);
        x.both(0, 1);
        x.ways(0, 0);
        x.least(0, 0, -1);
        x.cuts(0, 0);
        x.rest(3);
        x.lines(0, 0);
        x.rehearsals(20, 0);
        x.rehearse(0, 0);
        x.cold(1, 3, 10);
        x.weak(1, 0);
        x.engaged(2, 1);
        x.fewest();
        x.keep();
        x.night(0);
        x.owed(0);
        x.told(0, 5);
        x.wrong();
        x.run(20, 5, 3);
        x.back();
        x.count(6);
    }
}
