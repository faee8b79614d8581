import java.io.IOException;
import java.lang.reflect.Constructor;
import java.lang.reflect.Field;
import java.lang.reflect.Method;
import java.lang.reflect.Modifier;
import java.nio.file.Files;
import java.nio.file.Path;
import java.util.ArrayList;
import java.util.Arrays;
import java.util.List;
import java.util.Set;
import java.util.TreeSet;
import java.util.regex.Matcher;
import java.util.regex.Pattern;

/** The rules of LANGUAGE.md that a program can look at, and the room that an object takes. */
final class RulesTest {
    private static final String SOURCE = "src/main/java/SignHouse.java";
    private static final String[] FACE = {
        "int cut(int)", "int count(int)", "int encode()", "int encoded(int)", "int feed(long, int)",
        "int forget()", "int get(int)", "int hash(int)", "int key(int, int)", "int power(boolean)",
        "int search(int)", "int seed(int)", "int set(int, int)", "int sign()", "int verify()",
        "long digest()", "field BAD", "field FULL", "field NO", "field NONE", "SignHouse(int, int)"
    };
    private final Checks checks = new Checks();

    public static void main(String[] args) throws Exception {
        RulesTest test = new RulesTest();
        test.face();
        test.classesInside();
        test.words();
        test.lengths();
        test.roomOfAnObject();
        test.roomOfCalls();
        test.checks.end("RulesTest");
    }

    private static String signature(Class<?>[] types) {
        List<String> names = new ArrayList<>();
        for (Class<?> type : types) {
            names.add(type.getSimpleName());
        }
        return "(" + String.join(", ", names) + ")";
    }

    private void face() {
        Set<String> seen = new TreeSet<>();
        for (Method m : SignHouse.class.getDeclaredMethods()) {
            if (!Modifier.isPrivate(m.getModifiers())) {
                seen.add(m.getReturnType().getSimpleName() + " " + m.getName() + signature(m.getParameterTypes()));
                checks.holds(m + " is public, not static", m.getModifiers() == Modifier.PUBLIC);
            }
        }
        for (Field f : SignHouse.class.getDeclaredFields()) {
            if (!Modifier.isPrivate(f.getModifiers())) {
                seen.add("field " + f.getName());
            }
        }
        for (Constructor<?> c : SignHouse.class.getDeclaredConstructors()) {
            seen.add("SignHouse" + signature(c.getParameterTypes()));
        }
        checks.holds("the face is " + seen, seen.equals(new TreeSet<>(Arrays.asList(FACE))));
        checks.holds("final", Modifier.isFinal(SignHouse.class.getModifiers()));
    }

    private void classesInside() {
        Set<String> publicNames = new TreeSet<>();
        for (Method m : SignHouse.class.getDeclaredMethods()) {
            if (Modifier.isPublic(m.getModifiers())) {
                publicNames.add(m.getName());
            }
        }
        List<Class<?>> all = new ArrayList<>(Arrays.asList(SignHouse.class.getDeclaredClasses()));
        checks.holds("at most twelve classes", all.size() < 12);
        for (Class<?> inside : all) {
            int how = inside.getModifiers();
            checks.holds(inside + " static", Modifier.isStatic(how));
            checks.holds(inside + " not public", !Modifier.isPublic(how) && !Modifier.isProtected(how));
        }
        all.add(SignHouse.class);
        for (Class<?> c : all) {
            int fields = 0;
            for (Field f : c.getDeclaredFields()) {
                boolean isStatic = Modifier.isStatic(f.getModifiers());
                fields += isStatic ? 0 : 1;
                checks.holds(f + " final if static", !isStatic || Modifier.isFinal(f.getModifiers()));
            }
            checks.holds(c + " at most twenty fields", fields <= 20);
            for (Method m : c.getDeclaredMethods()) {
                checks.holds(m + " at most seven parameters", m.getParameterCount() <= 7);
                checks.holds(m + " has a name of its own",
                    Modifier.isPublic(m.getModifiers()) || !publicNames.contains(m.getName()));
            }
        }
    }

    private static String sourceWithoutComments() throws IOException {
        return Files.readString(Path.of(SOURCE))
            .replaceAll("(?s)/\\*.*?\\*/", "").replaceAll("//[^\n]*", "");
    }

    private void words() throws IOException {
        String source = sourceWithoutComments();
        String[] ruledOut = {
            "\\b(throw|throws|try|catch|synchronized|assert|volatile|package|native)\\b", "->", "::", "\"",
            "Exact\\b", "\\b(equals|hashCode|toString)\\b", "\\bSystem\\.(?!arraycopy)", "\\bThread\\b",
            "\\bimport (?!java\\.util\\.Arrays;)", "\\b(float|double|Object|BigInteger|MessageDigest|Random)\\b"
        };
        for (String word : ruledOut) {
            Matcher found = Pattern.compile(word).matcher(source);
            checks.holds("ruled out: " + word, !found.find());
        }
        for (char c : source.toCharArray()) {
            if (c > 126) {
                checks.holds("a sign above 126", false);
            }
        }
    }

    /** Methods are told by their indentation: 4 in the class, 8 in the classes inside it. */
    private void lengths() throws IOException {
        int start = 0;
        String[] lines = Files.readString(Path.of(SOURCE)).split("\n");
        for (int i = 0; i < lines.length; i++) {
            if (lines[i].matches(" {4}( {4})?[a-zA-Z].*\\) \\{")) {
                start = i;
            }
            if (lines[i].matches(" {4}( {4})?\\}")) {
                boolean ofMethod = lines[start].startsWith("        ") == lines[i].startsWith("        ");
                checks.holds("a short method at line " + start, !ofMethod || i - start <= 60);
            }
        }
    }

    private int objects;
    private int elements;

    private void roomOfAnObject() throws IllegalAccessException {
        walk(new SignHouse(40, 8), new ArrayList<>());
        checks.holds("objects and arrays: " + objects, objects <= 100);
        checks.holds("fields and elements: " + elements, elements <= 3000);
    }

    private void walk(Object o, List<Object> seen) throws IllegalAccessException {
        for (Object other : seen) {
            if (other == o) {
                return;
            }
        }
        seen.add(o);
        objects++;
        if (o.getClass().isArray()) {
            elements += java.lang.reflect.Array.getLength(o);
            return;
        }
        for (Field f : o.getClass().getDeclaredFields()) {
            if (!Modifier.isStatic(f.getModifiers())) {
                elements++;
                f.setAccessible(true);
                if (!f.getType().isPrimitive()) {
                    walk(f.get(o), seen);
                }
            }
        }
    }

    /** No call makes an object: the rows are made with the house and used again. */
    private void roomOfCalls() {
        SignHouse x = new SignHouse(40, 8);
        com.sun.management.ThreadMXBean threads =
            (com.sun.management.ThreadMXBean) java.lang.management.ManagementFactory.getThreadMXBean();
        everyCall(new SignHouse(40, 8));
        long before = threads.getCurrentThreadAllocatedBytes();
        everyCall(x);
        long made = threads.getCurrentThreadAllocatedBytes() - before;
        checks.holds("bytes made by the calls: " + made, made < 4096);
    }

    private long everyCall(SignHouse x) {
        long sum = 0;
        x.forget();
        x.seed(5);
        for (int i = 0; i < 20; i++) {
            sum += x.search(60);
        }
        for (int i = 0; i < 20; i++) {
            sum += x.feed(i, 8) + x.hash(i) + x.encoded(i) + x.sign() + x.verify() + x.power(true)
                + x.power(false) + x.key(0, i) + x.count(i) + x.set(i, i) + x.get(i) + x.digest() + x.encode();
        }
        return sum + x.cut(0);
    }
}
