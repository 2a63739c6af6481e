import java.io.IOException;
import java.lang.reflect.Constructor;
import java.lang.reflect.Method;
import java.lang.reflect.Modifier;
import java.nio.file.Files;
import java.nio.file.Path;
import java.util.Arrays;
import java.util.Set;
import java.util.TreeSet;
import java.util.regex.Matcher;
import java.util.regex.Pattern;

/** The class has the document's face and no more, and keeps to those rules of ../shared/LANGUAGE.md that can be read off. */
public final class FaceTest {
    private static final Path SOURCE = Path.of("src/main/java/BowlsWithin.java");
    private static final Path DOCUMENT = Path.of("../shared/DOC.md");
    private static final int MOST_PARAMETERS = 7;
    private static final int MOST_LINES = 60;
    private static final int MOST_FIELDS = 20;
    private static final String[] FACE = {
        "heap/1", "bowl/2", "comes/4", "warm/1", "turn/1", "lies/2", "nest/1", "height/1", "longest/2", "fewest/0",
        "apart/1", "carry/0", "load/1", "whole/1", "throwsNew/0", "helps/2", "out/2", "judge/1", "spans/3", "next/2",
        "from/4", "breaks/3", "image/0", "restore/0", "count/1", "keep/4", "row/3", "put/3", "element/2", "copy/5",
        "price/1", "toss/1"
    };
    private static final String[] FORBIDDEN = {
        "\\bimport\\b", "\\bpackage\\b", "->", "::", "\\bfinally\\b", "\\bassert\\b", "\\bsynchronized\\b",
        "getMessage", "\\bhashCode\\b", "\\.equals\\b", "\\btoString\\b", "@", "Exact\\b", "NullPointer",
        "IndexOutOfBounds", "ArithmeticException", "ClassCast", "NegativeArraySize", "ArrayStore",
        "catch \\((Runtime)?Exception\\b", "\\bThrowable\\b", "static \\{", "\\bvar\\b", "\\brecord\\b",
        "\" *\\+", "\\+ *\""
    };
    /** The library that the class uses; all of it stands in rules 4 and 6. */
    private static final Set<String> LIBRARY = Set.of("Integer.bitCount", "Math.max", "Math.min", "System.arraycopy");
    private static final Set<String> EXCEPTIONS = Set.of(
        "IllegalArgumentException", "IllegalStateException", "UnsupportedOperationException");
    private static final String[] SECTIONS = {
        "heaps: heap bowl comes warm turn", "nests: lies nest height longest fewest apart carry load",
        "sets made whole: whole throwsNew helps", "taking out, told nests: out judge",
        "spans, broken ones: spans next from breaks", "the image, what is told: image restore count",
        "shelves: keep row put element copy price toss"
    };

    public static void main(String[] args) throws IOException {
        Due due = new Due("face");
        Class<?> face = BowlsWithin.class;
        due.is("final and public", face.getModifiers(), Modifier.PUBLIC | Modifier.FINAL);
        Constructor<?>[] made = face.getDeclaredConstructors();
        due.is("one constructor", made.length, 1);
        due.is("without arguments", made[0].getParameterCount(), 0);
        due.is("public constructor", made[0].getModifiers(), Modifier.PUBLIC);
        methods(due, face);
        due.is("no field but private ones",
            Arrays.stream(face.getDeclaredFields()).filter(f -> !Modifier.isPrivate(f.getModifiers())).count(), 0);
        insides(due, face);
        String text = Files.readString(SOURCE);
        source(due, text);
        library(due, text, face);
        lengths(due, text);
        sections(due, text);
        faceOfDocument(due, text);
        due.end();
    }

    private static void methods(Due due, Class<?> face) {
        Set<String> want = new TreeSet<>(Arrays.asList(FACE));
        Set<String> names = new TreeSet<>();
        Set<String> got = new TreeSet<>();
        for (Method m : face.getDeclaredMethods()) {
            if (Modifier.isPublic(m.getModifiers())) {
                got.add(m.getName() + "/" + m.getParameterCount());
                names.add(m.getName());
                boolean isElement = m.getName().equals("element");
                due.is(m + " answers", m.getReturnType() == (isElement ? long.class : int.class) ? 1 : 0, 1);
                due.is(m + " throws", thrown(m), isElement ? 12 : 0);
                due.is(m + " takes ints alone",
                    Arrays.stream(m.getParameterTypes()).allMatch(type -> type == int.class) ? 1 : 0, 1);
                due.is(m + " is no object's own", Modifier.isStatic(m.getModifiers()) ? 1 : 0, 0);
            }
        }
        due.is("methods " + got, got.equals(want) ? 1 : 0, 1);
        for (Method m : face.getDeclaredMethods()) {
            boolean isPublic = Modifier.isPublic(m.getModifiers());
            due.is(m + " is private or of the face", isPublic || Modifier.isPrivate(m.getModifiers()) ? 1 : 0, 1);
            due.is(m + " has a name of its own", !isPublic && names.contains(m.getName()) ? 1 : 0, 0);
        }
        for (Class<?> inside : face.getDeclaredClasses()) {
            for (Method m : inside.getDeclaredMethods()) {
                due.is(m + " has a name of its own", names.contains(m.getName()) ? 1 : 0, 0);
            }
        }
    }

    /** 1 for an IllegalArgumentException, 2 for an IllegalStateException, 9 for another one, each a digit. */
    private static int thrown(Method m) {
        int told = 0;
        for (Class<?> type : m.getExceptionTypes()) {
            told = 10 * told + (type == IllegalArgumentException.class ? 1 : type == IllegalStateException.class ? 2 : 9);
        }
        return told;
    }

    private static void insides(Due due, Class<?> face) {
        Class<?>[] insides = face.getDeclaredClasses();
        due.is("twelve classes at most", insides.length < 12 ? 1 : 0, 1);
        for (Class<?> inside : insides) {
            int m = inside.getModifiers();
            due.is(inside + " static, not public",
                Modifier.isStatic(m) && !Modifier.isPublic(m) && !Modifier.isProtected(m) ? 1 : 0, 1);
            small(due, inside);
        }
        small(due, face);
    }

    private static void small(Due due, Class<?> some) {
        long fields = Arrays.stream(some.getDeclaredFields()).filter(f -> !Modifier.isStatic(f.getModifiers())).count();
        due.is(some + " has few fields", fields <= MOST_FIELDS ? 1 : 0, 1);
        for (Method m : some.getDeclaredMethods()) {
            due.is(m + " takes few parameters", m.getParameterCount() <= MOST_PARAMETERS ? 1 : 0, 1);
        }
        for (Constructor<?> c : some.getDeclaredConstructors()) {
            due.is(c + " takes few parameters", c.getParameterCount() <= MOST_PARAMETERS ? 1 : 0, 1);
        }
    }

    private static String codeOf(String text) {
        return text.replaceAll("(?s)/\\*.*?\\*/", "").replaceAll("//.*", "").replaceAll("\"[^\"]*\"", "\"\"");
    }

    private static void source(Due due, String text) {
        String code = codeOf(text);
        for (String word : FORBIDDEN) {
            Matcher m = Pattern.compile(word).matcher(code);
            due.is("no " + word, m.find() ? 1 : 0, 0);
        }
        for (int i = 0; i < text.length(); i++) {
            if (text.charAt(i) > 126) {
                due.is("sign at " + i, text.charAt(i), 126);
            }
        }
        Matcher statics = Pattern.compile("static (?!final|class|int |boolean )").matcher(code);
        due.is("static fields are final", statics.find() ? 1 : 0, 0);
        Matcher fields = Pattern.compile("static \\w+(\\[\\])? \\w+ *[=;,]").matcher(code);
        due.is("static fields of any type are final", fields.find() ? 1 : 0, 0);
    }

    /** What the class calls by a class's name, and what it makes, is its own or listed here. */
    private static void library(Due due, String text, Class<?> face) {
        String code = codeOf(text);
        Set<String> own = new TreeSet<>();
        for (Class<?> inside : face.getDeclaredClasses()) {
            own.add(inside.getSimpleName());
        }
        Matcher called = Pattern.compile("\\b([A-Z]\\w*)\\.([a-z]\\w*)\\(").matcher(code);
        while (called.find()) {
            String name = called.group(1) + "." + called.group(2);
            due.is("calls " + name, own.contains(called.group(1)) || LIBRARY.contains(name) ? 1 : 0, 1);
        }
        Matcher made = Pattern.compile("\\bnew (\\w+)").matcher(code);
        while (made.find()) {
            String name = made.group(1);
            due.is("makes " + name, own.contains(name) || EXCEPTIONS.contains(name) || name.equals("int") ? 1 : 0, 1);
        }
        Matcher thrown = Pattern.compile("\\b(?:throw|catch)\\b *([^;{]*)").matcher(code);
        while (thrown.find()) {
            due.is("throws or catches " + thrown.group(1),
                thrown.group(1).matches("new \\w+\\(\"\"\\)|\\(\\w+ \\w+\\) ") ? 1 : 0, 1);
        }
    }

    /** No method is longer than a rule allows; a method ends with a brace under its first line. */
    private static void lengths(Due due, String text) {
        String[] lines = text.split("\n");
        for (int i = 0; i < lines.length; i++) {
            if (lines[i].matches(" +[a-z].*\\) (throws .*)?\\{") && !lines[i].matches(" *(if|for|while|switch|catch)\\b.*")) {
                String end = lines[i].replaceAll("\\S.*", "") + "}";
                int last = i;
                while (last < lines.length && !lines[last].equals(end)) {
                    last++;
                }
                due.is("lines of " + lines[i].trim(), last - i < MOST_LINES ? 1 : 0, 1);
            }
        }
    }

    /** Ahead of the calls the source says what the interface does, and has them in the document's order. */
    private static void sections(Due due, String text) {
        StringBuilder stands = new StringBuilder();
        Matcher m = Pattern.compile("(?m)^    // ---- (.*)$|^    public (?:int|long) (\\w+)\\(").matcher(text);
        while (m.find()) {
            stands.append(m.group(1) != null ? "\n" + m.group(1) + ":" : " " + m.group(2));
        }
        for (String section : SECTIONS) {
            due.is("the source has " + section, stands.indexOf("\n" + section + "\n") >= 0 ? 1 : 0, 1);
        }
    }

    private static void faceOfDocument(Due due, String text) throws IOException {
        if (!Files.exists(DOCUMENT)) {
            System.out.println("face: there is no " + DOCUMENT + ", so that the face can't be looked up");
            return;
        }
        int declared = 0;
        for (String line : Files.readAllLines(DOCUMENT)) {
            if (line.matches("    public .*;")) {
                declared++;
                due.is("declares " + line.trim(), text.contains("\n" + line.replace(";", " {") + "\n") ? 1 : 0, 1);
            }
            if (line.startsWith("Ahead of the calls ")) {
                String calls = line.replaceAll("(?s).*?calls (.*) the interface.*", "$1").replaceAll("[`,]", "");
                String section = line.replaceAll(".*---- (.*)\\.", "$1") + ": " + calls;
                due.is("the interface says " + section, Arrays.asList(SECTIONS).contains(section) ? 1 : 0, 1);
            }
        }
        due.is("declared in the document", declared, FACE.length + 1);
    }
}
