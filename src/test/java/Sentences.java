import java.io.IOException;
import java.nio.file.Files;
import java.nio.file.Path;
import java.util.ArrayList;
import java.util.Arrays;
import java.util.List;
import java.util.Map;
import java.util.TreeMap;
import java.util.regex.Matcher;
import java.util.regex.Pattern;

/** The document's words by promise: whether a sentence stands there, and which words no test has named. */
final class Sentences {
    static final int WHAT_IT_IS = -1;
    static final int TERMS = 0;
    static final int PROMISES = 33;

    private static final Pattern PROMISE = Pattern.compile("Promise ([0-9]+): .*");
    /** Words that say nothing of the class: headings, fences, what stands in the interface, a call's own line. */
    private static final Pattern ASIDE = Pattern.compile(
        "(?m)^==== [0-9] |^```(text)?$|^Ahead of the calls .*$|^`[^`]*`: ");

    private final Map<Integer, String> words = new TreeMap<>();
    private final Map<Integer, boolean[]> named = new TreeMap<>();

    Sentences(Path document) throws IOException {
        for (String section : Files.readString(document).split("(?m)^## ")) {
            int end = section.indexOf('\n');
            if (end >= 0) {
                keep(section.substring(0, end).trim(), section.substring(end));
            }
        }
    }

    private void keep(String heading, String text) {
        Matcher m = PROMISE.matcher(heading);
        int promise;
        if (m.matches()) {
            promise = Integer.parseInt(m.group(1));
        } else if (heading.equals("Terms")) {
            promise = TERMS;
        } else if (heading.equals("What it is")) {
            promise = WHAT_IT_IS;
        } else {
            return;
        }
        String plain = ASIDE.matcher(text).replaceAll("").replaceAll("\\s+", " ");
        words.put(promise, plain);
        named.put(promise, new boolean[plain.length()]);
    }

    /** How many promises are read. */
    int promises() {
        int many = 0;
        for (int promise : words.keySet()) {
            many += promise > TERMS ? 1 : 0;
        }
        return many;
    }

    /** Marks a sentence, wherever it stands under a promise; false if it stands nowhere there. */
    boolean name(int promise, String sentence) {
        String text = words.getOrDefault(promise, "");
        boolean found = false;
        for (int at = text.indexOf(sentence); at >= 0; at = text.indexOf(sentence, at + 1)) {
            Arrays.fill(named.get(promise), at, at + sentence.length(), true);
            found = true;
        }
        return found;
    }

    /** What is left of the first lines, the terms and the promises when all that is named is taken away. */
    List<String> unnamed() {
        List<String> left = new ArrayList<>();
        for (int promise : words.keySet()) {
            StringBuilder rest = new StringBuilder();
            for (int i = 0; i < words.get(promise).length(); i++) {
                rest.append(named.get(promise)[i] ? '|' : words.get(promise).charAt(i));
            }
            for (String part : rest.toString().split("\\|+")) {
                if (part.matches(".*[A-Za-z0-9].*")) {
                    left.add(promise + ": " + part.trim());
                }
            }
        }
        return left;
    }
}
