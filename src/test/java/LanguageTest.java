import java.io.IOException;
import java.lang.reflect.Field;
import java.lang.reflect.Method;
import java.lang.reflect.Modifier;
import java.nio.file.Files;
import java.nio.file.Path;
import java.util.HashSet;
import java.util.List;
import java.util.Set;
import java.util.TreeSet;
import java.util.regex.Matcher;
import java.util.regex.Pattern;

/** The public face, and those rules of LANGUAGE.md that can be seen from outside. */
public final class LanguageTest {
    private static final Path SOURCE = Path.of("src/main/java/BeadLoom.java");

    private static final List<String> FACE = List.of(
        "boolean make(int, int, int)", "boolean lamp(int)", "boolean empty(int)",
        "int bead(int, boolean)", "boolean paint(int, int)", "int colour(int)",
        "boolean put(int, int, long)", "long look(int, int)", "int move(int, int, int, int, int)",
        "int open(int, int)", "int close(int, int)", "int turn(int, int)",
        "int step(int, int, int, int, int)", "int forget()", "int weave(int, boolean)",
        "int alike(int, int)", "long shade(int)", "int rack(int, int)", "int about(int)");

    private static int wrong = 0;

    private static void check(boolean holds, String what) {
        if (!holds) {
            wrong++;
            System.out.println("not so: " + what);
        }
    }

    private static String signature(Method m) {
        StringBuilder s = new StringBuilder(m.getReturnType().getSimpleName());
        s.append(' ').append(m.getName()).append('(');
        for (int k = 0; k < m.getParameterCount(); k++) {
            s.append(k == 0 ? "" : ", ").append(m.getParameterTypes()[k].getSimpleName());
        }
        return s.append(')').toString();
    }

    private static void face() {
        Set<String> open = new TreeSet<>();
        for (Method m : BeadLoom.class.getDeclaredMethods()) {
            if (!Modifier.isPrivate(m.getModifiers())) {
                open.add(signature(m));
                check(Modifier.isPublic(m.getModifiers()), m.getName() + " is public");
                check(!Modifier.isStatic(m.getModifiers()), m.getName() + " isn't static");
            }
        }
        check(open.equals(new TreeSet<>(FACE)), "the open methods are those of the document: " + open);
        check(Modifier.isPublic(BeadLoom.class.getModifiers()), "the class is public");
        check(Modifier.isFinal(BeadLoom.class.getModifiers()), "the class is final");
        check(BeadLoom.class.getDeclaredConstructors().length == 1, "there is one constructor");
        check(BeadLoom.class.getConstructors().length == 1, "it is public");
        check(BeadLoom.class.getConstructors()[0].getParameterCount() == 0, "it takes nothing");
        for (Field f : BeadLoom.class.getDeclaredFields()) {
            check(Modifier.isPrivate(f.getModifiers()) || f.getName().equals("NONE"), f.getName() + " is private");
        }
    }

    private static Set<String> openNames() {
        Set<String> names = new HashSet<>();
        for (String s : FACE) {
            names.add(s.substring(s.indexOf(' ') + 1, s.indexOf('(')));
        }
        return names;
    }

    private static void classesInside() {
        Class<?>[] inside = BeadLoom.class.getDeclaredClasses();
        check(inside.length <= 11, "at most twelve classes");
        for (Class<?> c : inside) {
            check(Modifier.isStatic(c.getModifiers()), c.getSimpleName() + " is static");
            check(c.getDeclaredFields().length <= 20, c.getSimpleName() + " has at most twenty fields");
            for (Method m : c.getDeclaredMethods()) {
                check(!openNames().contains(m.getName()), m.getName() + " isn't named as one of the face");
            }
        }
        for (Method m : BeadLoom.class.getDeclaredMethods()) {
            boolean isPrivate = Modifier.isPrivate(m.getModifiers());
            check(!isPrivate || !openNames().contains(m.getName()), m.getName() + " isn't named as one of the face");
            check(m.getParameterCount() <= 7, m.getName() + " takes at most seven parameters");
        }
    }

    private static void staticsAreFinal() {
        for (Field f : BeadLoom.class.getDeclaredFields()) {
            boolean isStatic = Modifier.isStatic(f.getModifiers());
            check(!isStatic || Modifier.isFinal(f.getModifiers()), f.getName() + " is final");
        }
    }

    private static String withoutComments(String text) {
        return text.replaceAll("(?s)/\\*.*?\\*/", "").replaceAll("//[^\n]*", "");
    }

    private static void words() throws IOException {
        String text = Files.readString(SOURCE);
        String code = withoutComments(text);
        for (String word : List.of("throw", "throws", "try", "catch", "finally", "synchronized", "assert",
            "import", "package", "hashCode", "Exception", "Object", "Random", "Thread", "\"", "->", "::")) {
            String sought = Character.isLetter(word.charAt(0)) ? "\\b" + word + "\\b" : Pattern.quote(word);
            check(!Pattern.compile(sought).matcher(code).find(), "the code does without " + word);
        }
        check(!Pattern.compile("\\w*Exact\\b").matcher(code).find(), "no function whose name ends in Exact");
        check(text.chars().allMatch(c -> c < 128), "the file is of plain characters");
        Set<String> library = Set.of("Math.min", "Math.floorMod", "System.arraycopy");
        Matcher used = Pattern.compile("\\b(Math|System|Integer|Long|Arrays|List)\\.\\w+").matcher(code);
        while (used.find()) {
            check(library.contains(used.group()), "the library's " + used.group() + " is among those looked at");
        }
    }

    public static void main(String[] args) throws IOException {
        face();
        classesInside();
        staticsAreFinal();
        words();
        System.out.println(wrong == 0 ? "face and language are as due" : wrong + " are not as due");
        if (wrong != 0) {
            System.exit(1);
        }
    }
}
