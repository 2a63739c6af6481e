import java.io.IOException;
import java.lang.reflect.InvocationTargetException;
import java.lang.reflect.Method;
import java.lang.reflect.Modifier;
import java.nio.file.Files;
import java.nio.file.Path;
import java.util.ArrayList;
import java.util.List;
import java.util.Map;
import java.util.TreeMap;
import java.util.regex.Matcher;
import java.util.regex.Pattern;

/** README.md holds: its examples answer what they say, each call has its row, and its refusals are the document's. */
public final class ReadmeTest {
    private static final Path README = Path.of("README.md");
    private static final Path DOCUMENT = Path.of("../shared/DOC.md");
    private static final Pattern EXAMPLE = Pattern.compile("x\\.(\\w+)\\(([^)]*)\\); +// (-?\\d+|throws \\w+)(:.*)?");
    private static final Pattern ROW = Pattern.compile("\\| `((\\w+)\\([^`]*\\))` \\| ([^|]+) \\|([^|]*)\\|");
    private static final Pattern REFUSAL = Pattern.compile("\\| (-\\d+) \\| [^|]+ \\|");
    private static final Pattern PROMISED = Pattern.compile("`(?:int|long) (\\w+\\([^)]*\\))[^`]*`: (.*)");

    private final Due due = new Due("readme");
    private final Map<String, Method> calls = new TreeMap<>();
    private BowlsWithin x;

    public static void main(String[] args) throws IOException, IllegalAccessException {
        ReadmeTest test = new ReadmeTest();
        List<String> lines = Files.readAllLines(README);
        test.examples(lines);
        test.rows(lines);
        test.due.end();
    }

    private ReadmeTest() {
        for (Method m : BowlsWithin.class.getDeclaredMethods()) {
            if (Modifier.isPublic(m.getModifiers())) {
                calls.put(m.getName(), m);
            }
        }
    }

    private void examples(List<String> lines) throws IllegalAccessException {
        boolean inside = false;
        int asked = 0;
        for (String line : lines) {
            if (line.startsWith("```")) {
                inside = line.equals("```java");
                x = null;
            } else if (inside && line.equals("BowlsWithin x = new BowlsWithin();")) {
                x = new BowlsWithin();
            } else if (inside) {
                asked++;
                example(line);
            }
        }
        due.is("there are examples", asked > 20 ? 1 : 0, 1);
    }

    private void example(String line) throws IllegalAccessException {
        Matcher m = EXAMPLE.matcher(line);
        boolean isCall = m.matches() && x != null && calls.containsKey(m.group(1));
        due.is("a call with its answer: " + line, isCall ? 1 : 0, 1);
        if (isCall) {
            String got = answer(calls.get(m.group(1)), m.group(2));
            due.is(line + " is answered " + got + ": so", got.equals(m.group(3)) ? 1 : 0, 1);
        }
    }

    private String answer(Method call, String told) throws IllegalAccessException {
        String[] parts = told.isEmpty() ? new String[0] : told.split(", ");
        Object[] numbers = new Object[parts.length];
        for (int i = 0; i < parts.length; i++) {
            numbers[i] = parts[i].startsWith("'") ? parts[i].charAt(1) : Integer.parseInt(parts[i]);
        }
        try {
            return call.invoke(x, numbers).toString();
        } catch (InvocationTargetException e) {
            return "throws " + e.getCause().getClass().getSimpleName();
        }
    }

    /** Each call has a row with the document's names, and below 0 what the document tells. */
    private void rows(List<String> lines) throws IOException {
        Map<String, String> rows = new TreeMap<>();
        List<String> refusals = new ArrayList<>();
        for (String line : lines) {
            Matcher row = ROW.matcher(line);
            if (row.matches()) {
                due.is("a call of the face: " + row.group(1), calls.containsKey(row.group(2)) ? 1 : 0, 1);
                rows.put(row.group(1), numbers(row.group(4)));
            }
            Matcher refusal = REFUSAL.matcher(line);
            if (refusal.matches()) {
                refusals.add(refusal.group(1));
            }
        }
        due.is("rows", rows.size(), calls.size());
        due.is("refusals told: " + refusals, String.join(" ", refusals).equals("-1 -2 -3 -4 -11 -12 -13 -14 -15") ? 1 : 0, 1);
        if (Files.exists(DOCUMENT)) {
            asPromised(rows);
        } else {
            System.out.println("readme: there is no " + DOCUMENT + ", so that the rows can't be looked up");
        }
    }

    private void asPromised(Map<String, String> rows) throws IOException {
        int promised = 0;
        for (String line : Files.readAllLines(DOCUMENT)) {
            Matcher m = PROMISED.matcher(line);
            if (m.matches()) {
                promised++;
                String call = m.group(1).replace("int ", "");
                String got = rows.getOrDefault(call, "no row");
                String want = numbers(m.group(2));
                due.is(call + " has below 0 '" + got + "', the document '" + want + "'", got.equals(want) ? 1 : 0, 1);
            }
        }
        due.is("calls promised", promised, calls.size());
    }

    /** The numbers below 0 of a text, each where it stands first. */
    private static String numbers(String text) {
        List<String> found = new ArrayList<>();
        Matcher m = Pattern.compile("(?<![0-9.])-\\d+").matcher(text);
        while (m.find()) {
            if (!found.contains(m.group())) {
                found.add(m.group());
            }
        }
        return String.join(" ", found);
    }
}
