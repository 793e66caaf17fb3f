import java.nio.file.Files;
import java.nio.file.Path;
import java.util.ArrayList;
import java.util.HashSet;
import java.util.List;
import java.util.Set;
import java.util.regex.Matcher;
import java.util.regex.Pattern;

/** Those rules of LANGUAGE.md that the text of the class shows: words, types, lengths, depths. Run in the project's folder. */
public final class LanguageTest {
    private static final Checks CHECKS = new Checks("LanguageTest");
    private static final Set<String> KEYWORDS = Set.of("if", "for", "while", "switch", "return", "case", "new", "else", "do");
    private static final Pattern HEAD = Pattern.compile(
        "^( +)((?:public |private |static |final )*)(?:[A-Za-z]+(?:\\[\\])* )?([A-Za-z]\\w*)\\(([^()]*)\\) \\{$");

    private record Method(String owner, String name, String modifiers, int parameters, int lines, String body) {
    }

    private LanguageTest() {
    }

    public static void main(String[] args) throws Exception {
        String source = Files.readString(Path.of("src/main/java/MoodBread.java"));
        String code = source.replaceAll("(?s)/\\*.*?\\*/", "").replaceAll("//[^\n]*", "").replaceAll("\"[^\"\n]*\"", "\"\"")
            .replaceAll("'[^'\n]+'", "'x'");
        words(source, code);
        List<Method> methods = methods(code);
        CHECKS.due("methods found", methods.size() > 100, true);
        lengths(methods);
        face(methods, code);
        made(methods);
        CHECKS.due("calls that are no recursion, at the deepest", depth(methods) <= 8, true);
        CHECKS.finish();
    }

    private static void words(String source, String code) {
        for (char c : source.toCharArray()) {
            CHECKS.due("sign " + (int) c, c == 10 || c >= 32 && c < 127, true);
        }
        String[] wrong = {"\\bthrow\\b", "\\bthrows\\b", "\\btry\\b", "\\bcatch\\b", "\\bsynchronized\\b", "\\bassert\\b", "->", "::", "\\bObject\\b",
            "\\bpackage\\b", "\\bnative\\b", "\\bprotected\\b", "\\bhashCode\\b", "\\bequals\\b", "\\btoString\\b", "\\w+Exact\\b", "\\bSystem\\.(?!arraycopy)",
            "\\bvar\\b", "\\bdouble\\b", "\\bfloat\\b", "\\bchar\\[\\]", "\"\" *\\+", "\\+ *\"\"", "\\bimport (?!java\\.util\\.Arrays;)"};
        for (String word : wrong) {
            CHECKS.due(word, Pattern.compile(word).matcher(code).find(), false);
        }
        Matcher statics = Pattern.compile("(?m)^ +(?:private |public )static (?!final )(?!.*\\()").matcher(code);
        CHECKS.due("static fields that are not final", statics.find(), false);
        Matcher classes = Pattern.compile("\\bclass \\w+").matcher(code);
        int count = 0;
        while (classes.find()) {
            count++;
        }
        CHECKS.due("classes", count <= 12, true);
    }

    private static List<Method> methods(String code) {
        List<Method> all = new ArrayList<>();
        String[] lines = code.split("\n");
        String owner = "";
        for (int i = 0; i < lines.length; i++) {
            Matcher type = Pattern.compile("class (\\w+)").matcher(lines[i]);
            if (type.find()) {
                owner = type.group(1);
            }
            Matcher head = HEAD.matcher(lines[i]);
            if (!head.find() || KEYWORDS.contains(head.group(3)) || lines[i].contains("else")) {
                continue;
            }
            int end = i + 1;
            while (!lines[end].equals(head.group(1) + "}")) {
                end++;
            }
            String body = String.join("\n", List.of(lines).subList(i + 1, end));
            String parameters = head.group(4).trim();
            all.add(new Method(owner, head.group(3), head.group(2), parameters.isEmpty() ? 0 : parameters.split(",").length, end - i + 1, body));
        }
        return all;
    }

    private static void lengths(List<Method> methods) {
        for (Method method : methods) {
            CHECKS.due(method.name() + " has few lines", method.lines() <= 60, true);
            CHECKS.due(method.name() + " has few parameters", method.parameters() <= 7, true);
        }
    }

    private static void face(List<Method> methods, String code) {
        Set<String> open = new HashSet<>();
        for (Method method : methods) {
            if (method.modifiers().contains("public")) {
                CHECKS.due(method.name() + " is of the outer class", method.owner().equals("MoodBread"), true);
                open.add(method.name());
            } else if (method.owner().equals("MoodBread")) {
                CHECKS.due(method.name() + " is private", method.modifiers().contains("private"), true);
            }
        }
        CHECKS.due("public methods and the constructor", open.size(), 33);
        for (Method method : methods) {
            CHECKS.due(method.owner() + "." + method.name() + " bears no public name",
                method.modifiers().contains("public") || !open.contains(method.name()), true);
        }
        for (String line : code.split("\n")) {
            if (line.matches("    [a-z].*;") && !line.startsWith("    return")) {
                CHECKS.due("field: " + line, line.startsWith("    private ") || line.startsWith("    public static final "), true);
            }
        }
    }

    /** Whatever is made is made with the object: calls make nothing, so that the room stays. */
    private static void made(List<Method> methods) {
        for (Method method : methods) {
            boolean isConstructor = method.name().equals(method.owner());
            CHECKS.due(method.owner() + "." + method.name() + " makes nothing", isConstructor || !method.body().contains("new "), true);
        }
    }

    /** The longest way of calls, those that call one another in a ring counted once. */
    private static int depth(List<Method> methods) {
        Set<String> names = new HashSet<>();
        for (Method method : methods) {
            names.add(method.name());
        }
        boolean[][] reach = new boolean[methods.size()][methods.size()];
        for (int i = 0; i < methods.size(); i++) {
            for (int j = 0; j < methods.size(); j++) {
                reach[i][j] = calls(methods.get(i), methods.get(j));
            }
        }
        boolean[][] direct = new boolean[methods.size()][];
        for (int i = 0; i < methods.size(); i++) {
            direct[i] = reach[i].clone();
        }
        for (int k = 0; k < methods.size(); k++) {
            for (int i = 0; i < methods.size(); i++) {
                for (int j = 0; j < methods.size(); j++) {
                    reach[i][j] |= reach[i][k] && reach[k][j];
                }
            }
        }
        int most = 0;
        for (int i = 0; i < methods.size(); i++) {
            most = Math.max(most, depthFrom(i, direct, reach, methods));
        }
        System.out.println("LanguageTest: calls that are no recursion go " + most + " deep");
        return most;
    }

    private static int depthFrom(int i, boolean[][] direct, boolean[][] reach, List<Method> methods) {
        // all of the ring of i count as one
        int most = 0;
        for (int k = 0; k < methods.size(); k++) {
            if (k == i || reach[i][k] && reach[k][i]) {
                for (int j = 0; j < methods.size(); j++) {
                    if (direct[k][j] && !(reach[j][i] && reach[i][j])) {
                        most = Math.max(most, depthFrom(j, direct, reach, methods));
                    }
                }
            }
        }
        return most + 1;
    }

    private static boolean calls(Method one, Method other) {
        String name = other.name();
        if (name.equals(other.owner())) {
            return Pattern.compile("\\bnew " + name + "\\(").matcher(one.body()).find();
        }
        boolean within = one.owner().equals(other.owner());
        boolean common = other.owner().equals("MoodBread");
        return Pattern.compile("\\w\\." + name + "\\(").matcher(one.body()).find() && !common
            || (within || common) && Pattern.compile("(?<![\\w.])" + name + "\\(").matcher(one.body()).find();
    }
}
