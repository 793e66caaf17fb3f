import java.lang.reflect.InvocationTargetException;
import java.lang.reflect.Method;
import java.nio.file.Files;
import java.nio.file.Path;
import java.util.ArrayList;
import java.util.Arrays;
import java.util.BitSet;
import java.util.Comparator;
import java.util.HashSet;
import java.util.LinkedHashMap;
import java.util.List;
import java.util.Map;
import java.util.Set;
import java.util.regex.Matcher;
import java.util.regex.Pattern;

/**
 * Runs the tests of the sentences of ../shared/DOC.md, and looks whether each sentence has one: all words of the Terms, of the
 * constants and of the promises must be quoted by some test, and no two tests quote the same. Run in the project's folder.
 * With a method's name as its argument it runs that test alone.
 */
public final class BoundaryTest {
    private static final List<Class<?>> TESTS = List.of(TownSentences.class, HourSentences.class, QuestionSentences.class, CallSentences.class);
    private static final Pattern WORD = Pattern.compile("\\S+");
    private static final Map<String, String> PARTS = new LinkedHashMap<>();
    private static final Map<String, BitSet> QUOTED = new LinkedHashMap<>();

    private BoundaryTest() {
    }

    public static void main(String[] args) throws Exception {
        readDocument();
        Set<String> sentences = new HashSet<>();
        int tests = 0;
        for (Class<?> all : TESTS) {
            Method[] methods = all.getDeclaredMethods();
            Arrays.sort(methods, Comparator.comparing(Method::getName));
            for (Method method : methods) {
                Sentence sentence = method.getAnnotation(Sentence.class);
                if (sentence != null) {
                    quote(method.getName(), sentence);
                    Sentences.CHECKS.due(method.getName() + " has a sentence of its own", sentences.add(sentence.at() + sentence.says()), true);
                    tests++;
                    if (args.length == 0 || args[0].equals(method.getName())) {
                        Sentences.about = method.getName() + " (" + sentence.at() + ": " + sentence.says() + "): ";
                        run(method);
                    }
                }
            }
        }
        PARTS.forEach(BoundaryTest::lookForUnquoted);
        System.out.println("BoundaryTest: " + tests + " sentences");
        Sentences.CHECKS.finish();
    }

    private static void run(Method method) throws IllegalAccessException {
        method.setAccessible(true);
        try {
            method.invoke(null);
        } catch (InvocationTargetException thrown) {
            thrown.getCause().printStackTrace(System.out);
            Sentences.due("it comes to its end", false, true);
        }
    }

    /** The document's parts, each on one line. */
    private static void readDocument() throws Exception {
        String document = Files.readString(Path.of("../shared/DOC.md"));
        String terms = document.substring(document.indexOf("## Terms"), document.indexOf("The constants:")).replaceAll("```(text)?", "");
        String[] numerals = {"I", "II", "III", "IV"};
        int from = terms.indexOf("\nI. ");
        for (int i = 0; i < numerals.length; i++) {
            int to = i + 1 < numerals.length ? terms.indexOf("\n" + numerals[i + 1] + ". ") : terms.length();
            part(numerals[i], terms.substring(from + numerals[i].length() + 2, to));
            from = to;
        }
        part("The constants", document.substring(document.indexOf("`NONE = -1`"), document.indexOf("Ahead of the calls")));
        part("What it is", document.substring(document.indexOf("An object is used"), document.indexOf("## The public face")));
        String[] promises = document.substring(document.indexOf("## Promise 1:"), document.indexOf("## Not promised")).split("## Promise ");
        for (int i = 1; i < promises.length; i++) {
            part("Promise " + i, promises[i].substring(promises[i].indexOf("`: ") + 2));
        }
    }

    private static void part(String name, String text) {
        PARTS.put(name, text.replaceAll("\\s+", " "));
        QUOTED.put(name, new BitSet());
    }

    private static void quote(String test, Sentence sentence) {
        String part = PARTS.getOrDefault(sentence.at(), "");
        int at = part.indexOf(sentence.says());
        Sentences.CHECKS.due(test + " quotes the document: " + sentence.says(), at >= 0, true);
        for (; at >= 0; at = part.indexOf(sentence.says(), at + 1)) {
            QUOTED.get(sentence.at()).set(at, at + sentence.says().length());
        }
    }

    private static void lookForUnquoted(String name, String part) {
        List<String> missing = new ArrayList<>();
        Matcher word = WORD.matcher(part);
        while (word.find()) {
            if (QUOTED.get(name).nextClearBit(word.start()) < word.end()) {
                missing.add(word.group());
            }
        }
        Sentences.CHECKS.due("words of " + name + " that no test quotes: " + missing, missing.size(), 0);
    }
}
