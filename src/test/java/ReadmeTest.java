import java.io.IOException;
import java.lang.reflect.Method;
import java.lang.reflect.Modifier;
import java.nio.file.Files;
import java.nio.file.Path;
import java.util.List;
import java.util.Set;
import java.util.TreeSet;
import java.util.regex.Matcher;
import java.util.regex.Pattern;
import java.util.stream.Stream;

/** Whether what README.md says is so: its example, its answers below 0, its calls and its tests. */
public final class ReadmeTest {
    private static final Pattern EXAMPLE = Pattern.compile("(?s)```java\n(.*?)```");
    private static final Pattern CALL = Pattern.compile("x\\.(\\w+)\\(([^)]*)\\);\\s*// (-?\\d+): .+");
    private static final Pattern ANSWER = Pattern.compile("\\| (-\\d+) \\| `([A-Z]+)` \\|");
    private static final Pattern CALL_ROW = Pattern.compile("(?m)^\\| `(\\w+)\\(([^)]*)\\)` \\|.*\\| ([A-Z, ]*) ?\\|$");
    private static final Pattern TEST = Pattern.compile("`(\\w+Test)`");
    private static final int WILD = Integer.MIN_VALUE;
    private static final Due due = new Due("ReadmeTest");

    public static void main(String[] args) throws ReflectiveOperationException, IOException {
        String readme = Files.readString(Path.of(args[0], "README.md"));
        example(readme);
        answersBelowZero(readme);
        callRows(readme);
        tests(readme, Path.of(args[0], "src", "test", "java"));
        due.end();
    }

    /** Each line of the example but the first is a call with its answer behind it. */
    private static void example(String readme) throws ReflectiveOperationException {
        Matcher block = EXAMPLE.matcher(readme);
        due.holds("there is an example", block.find());
        List<String> lines = block.group(1).lines().toList();
        due.holds("its first line makes an index", lines.get(0).equals("RoaringIndex x = new RoaringIndex();"));
        RoaringIndex x = new RoaringIndex();
        for (String line : lines.subList(1, lines.size())) {
            Matcher call = CALL.matcher(line);
            boolean told = call.matches();
            due.holds("it tells an answer: " + line, told);
            if (told) {
                due.is(line, answerOf(x, call.group(1), call.group(2)), Long.parseLong(call.group(3)));
            }
        }
    }

    private static long answerOf(RoaringIndex x, String name, String arguments) throws ReflectiveOperationException {
        Method m = methodOf(name);
        Object[] given = new Object[m.getParameterCount()];
        String[] told = arguments.isEmpty() ? new String[0] : arguments.split(", ");
        due.is("arguments of " + name, told.length, given.length);
        for (int k = 0; k < given.length; k++) {
            long v = Long.decode(told[k].replace("L", ""));
            given[k] = m.getParameterTypes()[k] == long.class ? (Object) v : (Object) (int) v;
        }
        return ((Number) m.invoke(x, given)).longValue();
    }

    private static Method methodOf(String name) throws NoSuchMethodException {
        for (Method m : RoaringIndex.class.getDeclaredMethods()) {
            if (m.getName().equals(name) && Modifier.isPublic(m.getModifiers())) {
                return m;
            }
        }
        throw new NoSuchMethodException(name);
    }

    private static void answersBelowZero(String readme) throws ReflectiveOperationException {
        Set<String> named = new TreeSet<>();
        Matcher row = ANSWER.matcher(readme);
        while (row.find()) {
            named.add(row.group(2));
            due.is(row.group(2), RoaringIndex.class.getField(row.group(2)).getInt(null), Long.parseLong(row.group(1)));
        }
        due.is("answers below 0 that are told", named.size(), RoaringIndex.class.getFields().length);
    }

    /** The table of calls has each of the face, once, with as many parameters, and BAD where it can be answered. */
    private static void callRows(String readme) throws ReflectiveOperationException {
        Set<String> named = new TreeSet<>();
        Matcher row = CALL_ROW.matcher(readme);
        while (row.find()) {
            String name = row.group(1);
            Method m = methodOf(name);
            due.holds(name + " is told once", named.add(name));
            String[] told = row.group(2).isEmpty() ? new String[0] : row.group(2).split(", ");
            due.is("parameters of " + name, told.length, m.getParameterCount());
            due.holds(name + " can answer BAD: " + row.group(3), row.group(3).contains("BAD") == answersBad(m));
        }
        for (Method m : RoaringIndex.class.getDeclaredMethods()) {
            due.holds(m.getName() + " is told", !Modifier.isPublic(m.getModifiers()) || named.contains(m.getName()));
        }
    }

    private static boolean answersBad(Method m) throws ReflectiveOperationException {
        Object[] wild = new Object[m.getParameterCount()];
        for (int k = 0; k < wild.length; k++) {
            wild[k] = m.getParameterTypes()[k] == long.class ? (Object) (long) WILD : (Object) WILD;
        }
        return ((Number) m.invoke(new RoaringIndex(), wild)).longValue() == RoaringIndex.BAD;
    }

    /** The tests that are named are those that are there, and all that can be run bear a test's name. */
    private static void tests(String readme, Path folder) throws IOException {
        Set<String> named = new TreeSet<>();
        Matcher test = TEST.matcher(readme);
        while (test.find()) {
            named.add(test.group(1));
        }
        Set<String> there = new TreeSet<>();
        try (Stream<Path> files = Files.walk(folder)) {
            for (Path file : files.filter(f -> f.toString().endsWith(".java")).toList()) {
                if (Files.readString(file).contains("static void main(")) {
                    there.add(folder.relativize(file).toString().replace(".java", ""));
                }
            }
        }
        due.holds("the tests " + there + " are those that are named " + named, there.equals(named));
    }
}
