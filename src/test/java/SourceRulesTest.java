import java.io.IOException;
import java.nio.file.Files;
import java.nio.file.Path;
import java.util.ArrayList;
import java.util.HashMap;
import java.util.HashSet;
import java.util.List;
import java.util.Map;
import java.util.Set;
import java.util.regex.Matcher;
import java.util.regex.Pattern;

/** What can be seen from the text of the class of the rules of LANGUAGE.md; a part of them only. */
public final class SourceRulesTest {
    private static final String[] FACE = {"clock", "lead", "pour", "wax", "pitch", "trueUp", "ticks", "set", "keep", "back",
        "clockOf", "hour", "water", "noon", "why", "emptyIn", "noonError", "bestWax", "worst", "mean", "count", "undo", "type",
        "clearText", "fault", "play"};
    private static final String[] LIBRARY = {"Math.abs", "Math.floorDiv", "Math.floorMod", "Math.max", "Math.min"};
    private static final String[] FORBIDDEN = {"import ", "package ", "->", "::", "throw", "catch", "finally", "assert",
        "synchronized", "instanceof", "double", "new int[0]", "toString", "hashCode", "equals", "System", "Float", "static {"};
    private static final Pattern METHOD = Pattern.compile(
        "^( {4}| {8})(?:(?:public|private|static) )*(?:int|void|boolean|char|State|Clock) (\\w+)\\((.*)\\) \\{$");

    public static void main(String[] args) throws IOException {
        List<String> lines = Files.readAllLines(Path.of("src/main/java/LeakingClocks.java"));
        face();
        words(lines);
        library(lines);
        methods(lines);
        depth(lines);
        Check.end();
    }

    private static void face() {
        Set<String> there = new HashSet<>();
        for (java.lang.reflect.Method method : LeakingClocks.class.getDeclaredMethods()) {
            boolean open = java.lang.reflect.Modifier.isPublic(method.getModifiers());
            boolean closed = java.lang.reflect.Modifier.isPrivate(method.getModifiers());
            Check.due("rule 1: " + method.getName() + " is public or private", open || closed ? 1 : 0, 1);
            if (open) {
                there.add(method.getName());
            } else {
                Check.due("rule 1: name " + method.getName(), List.of(FACE).contains(method.getName()) ? 1 : 0, 0);
            }
        }
        Check.due("rule 1: the face", there.equals(Set.of(FACE)) ? 1 : 0, 1);
        int constants = 0;
        for (java.lang.reflect.Field field : LeakingClocks.class.getDeclaredFields()) {
            constants += java.lang.reflect.Modifier.isPublic(field.getModifiers()) ? 1 : 0;
        }
        Check.due("rule 1: four constants", constants, 4);
    }

    private static String code(String line) {
        String bare = line.strip();
        return bare.startsWith("//") || bare.startsWith("/**") ? "" : bare;
    }

    private static void words(List<String> lines) {
        for (int k = 0; k < lines.size(); k++) {
            for (String word : FORBIDDEN) {
                Check.due("line " + (k + 1) + " has " + word, code(lines.get(k)).contains(word) ? 1 : 0, 0);
            }
        }
    }

    private static void library(List<String> lines) {
        Pattern call = Pattern.compile("\\b(Math|Integer|Long|String|Arrays|Character)\\.\\w+");
        for (String line : lines) {
            Matcher m = call.matcher(code(line));
            while (m.find()) {
                Check.due("rule 4: " + m.group(), List.of(LIBRARY).contains(m.group()) ? 1 : 0, 1);
            }
        }
    }

    private static void methods(List<String> lines) {
        String name = "";
        int begin = 0;
        String indent = "";
        for (int k = 0; k < lines.size(); k++) {
            Matcher m = METHOD.matcher(lines.get(k));
            if (m.matches()) {
                name = m.group(2);
                indent = m.group(1);
                begin = k;
                int parameters = m.group(3).isEmpty() ? 0 : m.group(3).split(",").length;
                Check.due("rule 11: parameters of " + name, parameters <= 7 ? 1 : 0, 1);
                boolean inside = indent.length() == 8;
                Check.due("rule 1: a name of the face inside, " + name, inside && List.of(FACE).contains(name) ? 1 : 0, 0);
            }
            if (!name.isEmpty() && lines.get(k).equals(indent + "}")) {
                Check.due("rule 11: length of " + name, k - begin < 60 ? 1 : 0, 1);
            }
        }
    }

    /** By names, so that methods of one name in several classes count as one; copyFrom is left out, whose calls go down by class. */
    private static void depth(List<String> lines) {
        Map<String, Set<String>> calls = new HashMap<>();
        String name = "";
        for (String line : lines) {
            Matcher m = METHOD.matcher(line);
            if (m.matches()) {
                name = m.group(2);
                calls.putIfAbsent(name, new HashSet<>());
            } else if (!name.isEmpty()) {
                Matcher call = Pattern.compile("\\b(\\w+)\\(").matcher(code(line));
                while (call.find()) {
                    calls.get(name).add(call.group(1));
                }
            }
        }
        calls.remove("copyFrom");
        for (String method : FACE) {
            int deep = deepest(method, calls, new ArrayList<>());
            Check.due("rule 11: " + method + " goes " + deep + " deep", deep <= 8 ? 1 : 0, 1);
        }
    }

    private static int deepest(String method, Map<String, Set<String>> calls, List<String> open) {
        if (!calls.containsKey(method) || open.contains(method) || !open.isEmpty() && List.of(FACE).contains(method)) {
            Check.due("rule 8: recursion at " + method, open.contains(method) ? 1 : 0, 0);
            return 0;
        }
        open.add(method);
        int deep = 0;
        for (String next : calls.get(method)) {
            deep = Math.max(deep, deepest(next, calls, open));
        }
        open.remove(method);
        return deep + 1;
    }
}
