import java.io.IOException;
import java.lang.reflect.Field;
import java.lang.reflect.Method;
import java.lang.reflect.Modifier;
import java.nio.file.Files;
import java.nio.file.Path;
import java.util.HashSet;
import java.util.List;
import java.util.Set;
import java.util.TreeSet;
import java.util.regex.Matcher;
import java.util.regex.Pattern;

/** The public face, and those rules of LANGUAGE.md that can be seen from outside. */
public final class LanguageTest {
    private static final Path SOURCE = Path.of("src/main/java/BeadLoom.java");
    private static final Path DOCUMENT = Path.of("../shared/DOC.md");

    private static final List<String> FACE = List.of(
        "boolean make(int, int, int)", "boolean lamp(int)", "boolean empty(int)",
        "int bead(int, boolean)", "boolean paint(int, int)", "int colour(int)",
        "boolean put(int, int, long)", "long look(int, int)", "int move(int, int, int, int, int)",
        "int open(int, int)", "int close(int, int)", "int turn(int, int)",
        "int step(int, int, int, int, int)", "int forget()", "int weave(int, boolean)",
        "int alike(int, int)", "long shade(int)", "int rack(int, int)", "int about(int)");

    private static int wrong = 0;

    private static void check(boolean holds, String what) {
        if (!holds) {
            wrong++;
            System.out.println("not so: " + what);
        }
    }

    private static String signature(Method m) {
        StringBuilder s = new StringBuilder(m.getReturnType().getSimpleName());
        s.append(' ').append(m.getName()).append('(');
        for (int k = 0; k < m.getParameterCount(); k++) {
            s.append(k == 0 ? "" : ", ").append(m.getParameterTypes()[k].getSimpleName());
        }
        return s.append(')').toString();
    }

    private static void face() {
        Set<String> open = new TreeSet<>();
        for (Method m : BeadLoom.class.getDeclaredMethods()) {
            if (!Modifier.isPrivate(m.getModifiers())) {
                open.add(signature(m));
                check(Modifier.isPublic(m.getModifiers()), m.getName() + " is public");
                check(!Modifier.isStatic(m.getModifiers()), m.getName() + " isn't static");
            }
        }
        check(open.equals(new TreeSet<>(FACE)), "the open methods are those of the document: " + open);
        check(Modifier.isPublic(BeadLoom.class.getModifiers()), "the class is public");
        check(Modifier.isFinal(BeadLoom.class.getModifiers()), "the class is final");
        check(BeadLoom.class.getDeclaredConstructors().length == 1, "there is one constructor");
        check(BeadLoom.class.getConstructors().length == 1, "it is public");
        check(BeadLoom.class.getConstructors()[0].getParameterCount() == 0, "it takes nothing");
        check(BeadLoom.class.getSuperclass() == Object.class, "the class extends none");
        check(BeadLoom.class.getInterfaces().length == 0, "the class implements none");
        for (Field f : BeadLoom.class.getDeclaredFields()) {
            check(Modifier.isPrivate(f.getModifiers()) || f.getName().equals("NONE"), f.getName() + " is private");
        }
    }

    private static void constant() throws ReflectiveOperationException {
        Field none = BeadLoom.class.getField("NONE");
        check(Modifier.isStatic(none.getModifiers()), "NONE is static");
        check(Modifier.isFinal(none.getModifiers()), "NONE is final");
        check(none.getType() == int.class, "NONE is an int");
        check(none.getInt(null) == -1, "NONE is -1");
    }

    /** The document's own lines of the face, against what the class has. */
    private static void faceOfTheDocument() throws IOException {
        if (!Files.exists(DOCUMENT)) {
            System.out.println("there is no " + DOCUMENT + " here: whether the face is still its own is not known");
            return;
        }
        String document = Files.readString(DOCUMENT);
        int from = document.indexOf("```java");
        int to = document.indexOf("```", from + 1);
        check(from >= 0 && to > from, "the document shows the face");
        if (from < 0 || to < from) {
            return;
        }
        Set<String> shown = new TreeSet<>();
        for (String line : document.substring(from, to).split("\n")) {
            String member = line.strip();
            if (member.endsWith(";")) {
                // Of a parameter the type alone counts.
                shown.add(member.replaceAll("(int|long|boolean) \\w+(?=[,)])", "$1").replaceAll("^public |;$", ""));
            }
        }
        Set<String> due = new TreeSet<>(FACE);
        due.add("BeadLoom()");
        due.add("static final int NONE = -1");
        check(shown.equals(due), "the document's face is the one that is tested here: " + shown);
    }

    private static Set<String> openNames() {
        Set<String> names = new HashSet<>();
        for (String s : FACE) {
            names.add(s.substring(s.indexOf(' ') + 1, s.indexOf('(')));
        }
        return names;
    }

    private static boolean isClosed(int modifiers) {
        return !Modifier.isPublic(modifiers) && !Modifier.isProtected(modifiers);
    }

    private static void classesInside() {
        Class<?>[] inside = BeadLoom.class.getDeclaredClasses();
        check(inside.length <= 11, "at most twelve classes");
        for (Class<?> c : inside) {
            check(Modifier.isStatic(c.getModifiers()), c.getSimpleName() + " is static");
            check(isClosed(c.getModifiers()), c.getSimpleName() + " is private or package-visible");
            fieldsAndMethods(c);
        }
        fieldsAndMethods(BeadLoom.class);
    }

    private static void fieldsAndMethods(Class<?> c) {
        int fields = 0;
        for (Field f : c.getDeclaredFields()) {
            boolean isStatic = Modifier.isStatic(f.getModifiers());
            check(!isStatic || Modifier.isFinal(f.getModifiers()), f.getName() + " is final");
            fields += isStatic ? 0 : 1;
        }
        check(fields <= 20, c.getSimpleName() + " has at most twenty fields beside its constants");
        for (Method m : c.getDeclaredMethods()) {
            boolean isPrivate = Modifier.isPrivate(m.getModifiers());
            check(!isPrivate || !openNames().contains(m.getName()), m.getName() + " isn't named as one of the face");
            check(m.getParameterCount() <= 7, m.getName() + " takes at most seven parameters");
        }
    }

    private static String withoutCommentsAndTexts(String text) {
        return text.replaceAll("(?s)/\\*.*?\\*/", "").replaceAll("//[^\n]*", "")
            .replaceAll("\"(\\\\.|[^\"\\\\])*\"", "TEXT").replaceAll("'(\\\\.|[^'\\\\])+'", "CHARACTER");
    }

    private static void hasNone(String code, String sought) {
        Matcher found = Pattern.compile(sought).matcher(code);
        check(!found.find(), "the code does without " + sought);
    }

    private static void words() throws IOException {
        String text = Files.readString(SOURCE);
        String code = withoutCommentsAndTexts(text);
        for (String word : List.of("throw", "throws", "try", "catch", "finally", "synchronized", "assert", "package",
            "protected", "hashCode", "Object", "Thread", "Random", "\\w+Exception", "\\w+Error", "\\w+Exact")) {
            hasNone(code, "\\b" + word + "\\b");
        }
        hasNone(code, "::");
        hasNone(code, "\\bstatic\\s*\\{");
        // An arrow is a lambda's, unless it is that of a switch.
        hasNone(code.replaceAll("\\b(case\\b[^:;{}>]*|default\\s*)->", ""), "->");
        check(text.chars().allMatch(c -> c < 256), "the file holds characters 0 to 255 alone");
    }

    /** Of these classes nothing but what rule 4 names is used. */
    private static void library() throws IOException {
        String code = withoutCommentsAndTexts(Files.readString(SOURCE));
        hasNone(code, "\\bimport\\s+(?!java\\.util\\.(ArrayList|List|Arrays|Iterator);)");
        hasNone(code, "\\bSystem\\.(?!arraycopy\\b)");
        hasNone(code, "\\bArrays\\.(?!(copyOf|copyOfRange|fill)\\b)");
        hasNone(code, "\\bList\\.(?!of\\b)");
        hasNone(code, "\\bMath\\.(?!(abs|max|min|floorDiv|floorMod|multiplyFull|multiplyHigh)\\b)");
        hasNone(code, "\\bString\\.");
        hasNone(code, "\\b(Float|Double|Character|Boolean|Byte|Short|Objects|Runtime|ThreadLocal)\\b");
    }

    public static void main(String[] args) throws IOException, ReflectiveOperationException {
        face();
        constant();
        faceOfTheDocument();
        classesInside();
        words();
        library();
        System.out.println(wrong == 0 ? "face and language are as due" : wrong + " are not as due");
        if (wrong != 0) {
            System.exit(1);
        }
    }
}
