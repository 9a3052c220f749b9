import java.io.IOException;
import java.lang.reflect.InvocationTargetException;
import java.lang.reflect.Method;
import java.lang.reflect.Modifier;
import java.nio.file.Files;
import java.nio.file.Path;
import java.util.List;
import java.util.Set;
import java.util.TreeSet;
import java.util.regex.Matcher;
import java.util.regex.Pattern;
import java.util.stream.Stream;

/** Makes the calls that README.md shows, and fails if one answers otherwise than stands behind it. */
public final class ReadmeTest {
    private static final Path README = Path.of("README.md");
    private static final Path TESTS = Path.of("src/test/java");
    private static final String NEW_OBJECT = "BeadLoom loom = new BeadLoom();";
    private static final Pattern CALL =
        Pattern.compile("loom\\.(\\w+)\\(([^()]*)\\); +// (true|false|NONE|-?\\d+)(: .+)?");
    private static final int MOST_CALLS = 512;
    private static final int MOST_SECONDS = 60;

    private static final Set<String> SHOWN = new TreeSet<>();
    private static volatile int lineNumber = 0;
    private static BeadLoom loom = null;
    private static int callsOfObject = 0;
    private static int calls = 0;
    private static int wrong = 0;

    private static void fault(String what) {
        wrong++;
        System.out.println(README + ":" + lineNumber + ": " + what);
    }

    private static void runAll(List<String> lines) throws IllegalAccessException {
        boolean isCode = false;
        for (String line : lines) {
            lineNumber++;
            if (line.startsWith("```")) {
                isCode = line.equals("```java");
                // Each block stands for itself, so that it can be read alone.
                loom = null;
            } else if (isCode && !line.isBlank()) {
                run(line);
            }
        }
    }

    private static void run(String line) throws IllegalAccessException {
        if (line.equals(NEW_OBJECT)) {
            loom = new BeadLoom();
            callsOfObject = 0;
            return;
        }
        Matcher shown = CALL.matcher(line);
        if (loom == null || !shown.matches()) {
            fault("is neither a new object nor a call on one with its answer: " + line);
            return;
        }
        call(shown.group(1), shown.group(2), shown.group(3));
    }

    private static void call(String name, String arguments, String due) throws IllegalAccessException {
        String[] texts = arguments.isEmpty() ? new String[0] : arguments.split(", ", -1);
        Method method = methodOf(name, texts.length);
        Object[] values = method == null ? null : valuesOf(texts, method.getParameterTypes());
        if (values == null) {
            fault("there is no such call: " + name + "(" + arguments + ")");
            return;
        }
        SHOWN.add(name);
        calls++;
        callsOfObject++;
        if (callsOfObject > MOST_CALLS) {
            fault("is beyond the calls that are promised");
        }
        String answer;
        try {
            answer = method.invoke(loom, values).toString();
        } catch (InvocationTargetException thrown) {
            answer = thrown.getCause().toString();
        }
        if (!answer.equals(due.equals("NONE") ? "-1" : due)) {
            fault(name + "(" + arguments + ") answered " + answer + ", README.md says " + due);
        }
    }

    private static Method methodOf(String name, int parameters) {
        for (Method m : BeadLoom.class.getDeclaredMethods()) {
            boolean isOpen = Modifier.isPublic(m.getModifiers());
            if (isOpen && m.getName().equals(name) && m.getParameterCount() == parameters) {
                return m;
            }
        }
        return null;
    }

    private static Object[] valuesOf(String[] texts, Class<?>[] types) {
        Object[] values = new Object[texts.length];
        for (int k = 0; k < texts.length; k++) {
            values[k] = valueOf(texts[k], types[k]);
            if (values[k] == null) {
                return null;
            }
        }
        return values;
    }

    /** What the text stands for where Java wants that type; null if Java wouldn't take it there. */
    private static Object valueOf(String text, Class<?> type) {
        if (type == boolean.class) {
            return text.equals("true") || text.equals("false") ? Boolean.valueOf(text) : null;
        }
        if (type == long.class && text.matches("-?\\d+L")) {
            return Long.valueOf(text.substring(0, text.length() - 1));
        }
        if (!text.equals("BeadLoom.NONE") && !text.matches("-?\\d+")) {
            return null;
        }
        long number = text.equals("BeadLoom.NONE") ? BeadLoom.NONE : Long.parseLong(text);
        if (number != (int) number) {
            return null;
        }
        return type == long.class ? (Object) number : (Object) (int) number;
    }

    private static void everyCallIsShown() {
        for (Method m : BeadLoom.class.getDeclaredMethods()) {
            if (Modifier.isPublic(m.getModifiers()) && !SHOWN.contains(m.getName())) {
                fault("no example shows " + m.getName());
            }
        }
    }

    private static void everyTestIsNamed(String readme) throws IOException {
        try (Stream<Path> tests = Files.list(TESTS)) {
            for (Path test : (Iterable<Path>) tests.sorted()::iterator) {
                String name = test.getFileName().toString().replace(".java", "");
                if (!readme.contains("`" + name + "`")) {
                    fault("doesn't name the test " + name);
                }
            }
        }
    }

    /** A call that doesn't end is a fault too: the test then ends all the same. */
    private static void endInTime() {
        Thread watch = new Thread(() -> {
            try {
                Thread.sleep(MOST_SECONDS * 1000L);
            } catch (InterruptedException stopped) {
                return;
            }
            System.out.println(README + ":" + lineNumber + ": hasn't ended in " + MOST_SECONDS + " seconds");
            System.out.flush();
            Runtime.getRuntime().halt(1);
        });
        watch.setDaemon(true);
        watch.start();
    }

    public static void main(String[] args) throws IOException, IllegalAccessException {
        endInTime();
        runAll(Files.readAllLines(README));
        everyCallIsShown();
        everyTestIsNamed(Files.readString(README));
        System.out.println(calls + " calls of README.md, " + wrong + " faults");
        if (wrong != 0) {
            System.exit(1);
        }
    }
}
