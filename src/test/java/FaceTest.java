import java.io.IOException;
import java.lang.reflect.Constructor;
import java.lang.reflect.Method;
import java.lang.reflect.Modifier;
import java.nio.file.Files;
import java.nio.file.Path;
import java.util.Arrays;
import java.util.Set;
import java.util.TreeSet;
import java.util.regex.Matcher;
import java.util.regex.Pattern;

/** The class has the document's face and no more, and keeps to those rules of ../shared/LANGUAGE.md that can be read off. */
public final class FaceTest {
    private static final String[] FACE = {
        "heap/1", "bowl/2", "comes/4", "warm/1", "turn/1", "lies/2", "nest/1", "height/1", "longest/2", "fewest/0",
        "apart/1", "carry/0", "load/1", "whole/1", "throwsNew/0", "helps/2", "out/2", "judge/1", "spans/3", "next/2",
        "from/4", "breaks/3", "image/0", "restore/0", "count/1", "keep/4", "row/3", "put/3", "element/2", "copy/5",
        "price/1", "toss/1"
    };
    private static final String[] FORBIDDEN = {
        "\\bimport\\b", "\\bpackage\\b", "->", "::", "\\bfinally\\b", "\\bassert\\b", "\\bsynchronized\\b",
        "getMessage", "\\bhashCode\\b", "\\.equals\\b", "\\btoString\\b", "@", "Exact\\b", "NullPointer",
        "IndexOutOfBounds", "ArithmeticException", "ClassCast", "NegativeArraySize", "ArrayStore",
        "catch \\((Runtime)?Exception\\b", "\\bThrowable\\b", "static \\{", "\\bvar\\b", "\\brecord\\b"
    };

    public static void main(String[] args) throws IOException {
        Due due = new Due("face");
        Class<?> face = BowlsWithin.class;
        due.is("final and public", face.getModifiers(), Modifier.PUBLIC | Modifier.FINAL);
        Constructor<?>[] made = face.getDeclaredConstructors();
        due.is("one constructor", made.length, 1);
        due.is("without arguments", made[0].getParameterCount(), 0);
        due.is("public constructor", made[0].getModifiers(), Modifier.PUBLIC);
        methods(due, face);
        due.is("no field but private ones",
            Arrays.stream(face.getDeclaredFields()).filter(f -> !Modifier.isPrivate(f.getModifiers())).count(), 0);
        insides(due, face);
        source(due);
        due.end();
    }

    private static void methods(Due due, Class<?> face) {
        Set<String> want = new TreeSet<>(Arrays.asList(FACE));
        Set<String> names = new TreeSet<>();
        Set<String> got = new TreeSet<>();
        for (Method m : face.getDeclaredMethods()) {
            if (Modifier.isPublic(m.getModifiers())) {
                got.add(m.getName() + "/" + m.getParameterCount());
                names.add(m.getName());
                boolean isElement = m.getName().equals("element");
                due.is(m + " answers", m.getReturnType() == (isElement ? long.class : int.class) ? 1 : 0, 1);
                due.is(m + " throws", thrown(m), isElement ? 12 : 0);
            }
        }
        due.is("methods " + got, got.equals(want) ? 1 : 0, 1);
        for (Method m : face.getDeclaredMethods()) {
            boolean isPublic = Modifier.isPublic(m.getModifiers());
            due.is(m + " is private or of the face", isPublic || Modifier.isPrivate(m.getModifiers()) ? 1 : 0, 1);
            due.is(m + " has a name of its own", !isPublic && names.contains(m.getName()) ? 1 : 0, 0);
        }
        for (Class<?> inside : face.getDeclaredClasses()) {
            for (Method m : inside.getDeclaredMethods()) {
                due.is(m + " has a name of its own", names.contains(m.getName()) ? 1 : 0, 0);
            }
        }
    }

    /** 1 for an IllegalArgumentException, 2 for an IllegalStateException, 9 for another one, each a digit. */
    private static int thrown(Method m) {
        int told = 0;
        for (Class<?> type : m.getExceptionTypes()) {
            told = 10 * told + (type == IllegalArgumentException.class ? 1 : type == IllegalStateException.class ? 2 : 9);
        }
        return told;
    }

    private static void insides(Due due, Class<?> face) {
        Class<?>[] insides = face.getDeclaredClasses();
        due.is("twelve classes at most", insides.length < 12 ? 1 : 0, 1);
        for (Class<?> inside : insides) {
            int m = inside.getModifiers();
            due.is(inside + " static, not public",
                Modifier.isStatic(m) && !Modifier.isPublic(m) && !Modifier.isProtected(m) ? 1 : 0, 1);
        }
    }

    private static void source(Due due) throws IOException {
        Path file = Path.of("src/main/java/BowlsWithin.java");
        String text = Files.readString(file);
        String code = text.replaceAll("(?s)/\\*.*?\\*/", "").replaceAll("//.*", "").replaceAll("\"[^\"]*\"", "\"\"");
        for (String word : FORBIDDEN) {
            Matcher m = Pattern.compile(word).matcher(code);
            due.is("no " + word, m.find() ? 1 : 0, 0);
        }
        for (int i = 0; i < text.length(); i++) {
            if (text.charAt(i) > 126) {
                due.is("sign at " + i, text.charAt(i), 126);
            }
        }
        Matcher statics = Pattern.compile("static (?!final|class|int |boolean )").matcher(code);
        due.is("static fields are final", statics.find() ? 1 : 0, 0);
        Matcher fields = Pattern.compile("static \\w+(\\[\\])? \\w+ *[=;,]").matcher(code);
        due.is("static fields of any type are final", fields.find() ? 1 : 0, 0);
    }
}
