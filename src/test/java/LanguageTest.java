import java.lang.management.ManagementFactory;
import java.lang.reflect.Field;
import java.lang.reflect.Member;
import java.lang.reflect.Method;
import java.lang.reflect.Modifier;
import java.util.Arrays;
import java.util.Set;
import java.util.TreeSet;

/** The face of the document, as the compiled class shows it, and the room that calls take. */
public final class LanguageTest {
    private static final Due due = new Due("LanguageTest");
    private static final String[] FACE = {
        "int add(int,int)", "int remove(int,int)", "int range(int,int,int,int,int)", "int steps(int,int,int,int)",
        "int clear(int)", "int join(int,int,int,int)", "int shrink(int)", "int formula(int,long,int)",
        "int has(int,int)", "int rank(int,int)", "long select(int,int)", "long next(int,int)", "int count(int,int)",
        "int container(int,int,int)", "int compare(int,int)", "int write(int)", "int read(int)", "int fault()",
        "int cut(int)", "int type(long,int)", "int at(int)", "int alter(int,int)", "int work()", "int size()",
        "long digest()"};

    public static void main(String[] args) throws Exception {
        face();
        constants();
        room();
        due.end();
    }

    private static void face() {
        Set<String> found = new TreeSet<>();
        Set<String> names = new TreeSet<>();
        for (Method m : RoaringIndex.class.getDeclaredMethods()) {
            if (Modifier.isPublic(m.getModifiers())) {
                names.add(m.getName());
                found.add(m.getReturnType() + " " + m.getName() + "("
                    + String.join(",", Arrays.stream(m.getParameterTypes()).map(Class::getName).toList()) + ")");
            }
        }
        due.holds("the methods are those of the document", found.equals(new TreeSet<>(Arrays.asList(FACE))));
        due.holds("the class is public and final",
            (RoaringIndex.class.getModifiers() & (Modifier.PUBLIC | Modifier.FINAL)) == (Modifier.PUBLIC | Modifier.FINAL));
        due.is("constructors", RoaringIndex.class.getDeclaredConstructors().length, 1);
        due.is("public constructors", RoaringIndex.class.getConstructors().length, 1);
        for (Method m : RoaringIndex.class.getDeclaredMethods()) {
            publicOrPrivate(m);
            due.holds(m + ": a private name of its own", Modifier.isPublic(m.getModifiers()) || !names.contains(m.getName()));
        }
        for (Field f : RoaringIndex.class.getDeclaredFields()) {
            publicOrPrivate(f);
        }
        for (Class<?> c : RoaringIndex.class.getDeclaredClasses()) {
            for (Method m : c.getDeclaredMethods()) {
                due.holds(m + ": a name of its own", !names.contains(m.getName()));
            }
        }
    }

    private static void publicOrPrivate(Member m) {
        due.holds(m + " is public or private", (m.getModifiers() & (Modifier.PUBLIC | Modifier.PRIVATE)) != 0);
    }

    private static void constants() throws Exception {
        String[] names = {"NONE", "BAD", "FULL", "LONG", "SPENT"};
        Set<String> found = new TreeSet<>();
        for (Field f : RoaringIndex.class.getFields()) {
            found.add(f.getName());
        }
        due.holds("the constants are those of the document", found.equals(new TreeSet<>(Arrays.asList(names))));
        for (int k = 0; k < names.length; k++) {
            due.is(names[k], RoaringIndex.class.getField(names[k]).getInt(null), -1 - k);
        }
    }

    /** The dearest calls, 512 of them: what they make must be far below the room of 7.3 million elements. */
    private static void room() {
        com.sun.management.ThreadMXBean bean = (com.sun.management.ThreadMXBean) ManagementFactory.getThreadMXBean();
        long id = Thread.currentThread().getId();
        dearestCalls();
        long before = bean.getThreadAllocatedBytes(id);
        dearestCalls();
        long made = bean.getThreadAllocatedBytes(id) - before;
        due.holds("512 calls make " + made + " bytes, below 2 million", made < 2_000_000);
        before = bean.getThreadAllocatedBytes(id);
        new RoaringIndex();
        made = bean.getThreadAllocatedBytes(id) - before;
        due.holds("a new object is of " + made + " bytes, below 20000", made < 20_000);
    }

    private static void dearestCalls() {
        RoaringIndex x = new RoaringIndex();
        for (int set = 0; set < 8; set++) {
            for (int key = 0; key < 6; key++) {
                x.steps(set, key, set, 2);
            }
        }
        for (int k = 0; k < 116; k++) {
            x.formula(k % 8, Made.signs(k % 7, 1, 2, 20, 17, 18, 16), 7);
            x.join(k % 8, 1, k % 5, k % 3);
            x.write(k % 8);
            x.read(k % 7);
        }
    }
}
