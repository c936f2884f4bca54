import java.io.IOException;
import java.lang.reflect.Constructor;
import java.lang.reflect.Field;
import java.lang.reflect.Method;
import java.lang.reflect.Modifier;
import java.nio.file.Files;
import java.nio.file.Path;
import java.util.ArrayList;
import java.util.HashMap;
import java.util.HashSet;
import java.util.List;
import java.util.Map;
import java.util.Set;
import java.util.regex.Matcher;
import java.util.regex.Pattern;

/** What can be seen from the text of the class of the rules of LANGUAGE.md; a part of them only. */
public final class SourceRulesTest {
    private static final String[] FACE = {"clock", "lead", "pour", "wax", "pitch", "trueUp", "ticks", "set", "keep", "back",
        "clockOf", "hour", "water", "noon", "why", "emptyIn", "noonError", "bestWax", "worst", "mean", "count", "undo", "type",
        "clearText", "fault", "play"};
    private static final String[] LIBRARY = {"Math.abs", "Math.floorDiv", "Math.floorMod", "Math.max", "Math.min"};
    private static final String[] FORBIDDEN = {"import ", "package ", "->", "::", "throw", "catch", "finally", "assert",
        "synchronized", "instanceof", "double", "new int[0]", "toString", "hashCode", "equals", "System", "Float", "static {"};
    private static final Pattern METHOD = Pattern.compile(
        "^( {4}| {8})(?:(?:public|private|static) )*(?:int|void|boolean|char|State|Clock) (\\w+)\\((.*)\\) \\{$");

    public static void main(String[] args) throws IOException {
        List<String> lines = Files.readAllLines(Path.of("src/main/java/LeakingClocks.java"));
        face();
        words(lines);
        library(lines);
        methods(lines);
        depth(lines);
        Check.end();
    }

    private static void face() throws IOException {
        Set<String> there = new HashSet<>();
        for (Method method : LeakingClocks.class.getDeclaredMethods()) {
            boolean open = Modifier.isPublic(method.getModifiers());
            boolean closed = Modifier.isPrivate(method.getModifiers());
            Check.due("rule 1: " + method.getName() + " is public or private", open || closed ? 1 : 0, 1);
            if (open) {
                there.add(Modifier.toString(method.getModifiers()) + " " + told(method.getName(), method));
            } else {
                Check.due("rule 1: name " + method.getName(), List.of(FACE).contains(method.getName()) ? 1 : 0, 0);
            }
        }
        for (Field field : LeakingClocks.class.getDeclaredFields()) {
            boolean open = Modifier.isPublic(field.getModifiers());
            boolean closed = Modifier.isPrivate(field.getModifiers());
            Check.due("rule 1: " + field.getName() + " is public or private", open || closed ? 1 : 0, 1);
            if (open) {
                there.add(Modifier.toString(field.getModifiers()) + " " + field.getType() + " " + field.getName());
            }
        }
        for (Constructor<?> made : LeakingClocks.class.getDeclaredConstructors()) {
            there.add(Modifier.toString(made.getModifiers()) + " LeakingClocks/" + made.getParameterCount());
        }
        there.add(Modifier.toString(LeakingClocks.class.getModifiers()) + " class LeakingClocks");
        Set<String> due = faceOfTheDocument();
        Check.due("rule 1: lines of the face", due.size(), FACE.length + 6);
        for (String line : due) {
            Check.due("the face has " + line, there.contains(line) ? 1 : 0, 1);
        }
        Check.due("rule 1: the face has no more", there.size(), due.size());
    }

    private static String told(String name, Method method) {
        boolean numbers = method.getExceptionTypes().length == 0;
        for (Class<?> type : method.getParameterTypes()) {
            numbers &= type == int.class;
        }
        return method.getReturnType() + " " + name + "/" + (numbers ? method.getParameterCount() : -1);
    }

    /** The lines of the document's face: methods with how many numbers they take, constants without their values. */
    private static Set<String> faceOfTheDocument() throws IOException {
        Pattern method = Pattern.compile("(public .*?)\\((.*)\\);");
        Pattern constant = Pattern.compile("(public .*?) = .*;");
        Set<String> due = new HashSet<>();
        for (String line : Files.readAllLines(Path.of("../shared/DOC.md"))) {
            Matcher m = method.matcher(line.strip());
            Matcher c = constant.matcher(line.strip());
            if (m.matches()) {
                due.add(m.group(1) + "/" + (m.group(2).isEmpty() ? 0 : m.group(2).split(",").length));
            } else if (c.matches()) {
                due.add(c.group(1));
            } else if (line.startsWith("public final class")) {
                due.add(line.replace(" {", ""));
            }
        }
        return due;
    }

    private static String code(String line) {
        String bare = line.strip();
        return bare.startsWith("//") || bare.startsWith("/**") ? "" : bare;
    }

    private static void words(List<String> lines) {
        for (int k = 0; k < lines.size(); k++) {
            for (String word : FORBIDDEN) {
                Check.due("line " + (k + 1) + " has " + word, code(lines.get(k)).contains(word) ? 1 : 0, 0);
            }
        }
    }

    private static void library(List<String> lines) {
        Pattern call = Pattern.compile("\\b(Math|Integer|Long|String|Arrays|Character)\\.\\w+");
        for (String line : lines) {
            Matcher m = call.matcher(code(line));
            while (m.find()) {
                Check.due("rule 4: " + m.group(), List.of(LIBRARY).contains(m.group()) ? 1 : 0, 1);
            }
        }
    }

    private static void methods(List<String> lines) {
        String name = "";
        int begin = 0;
        String indent = "";
        for (int k = 0; k < lines.size(); k++) {
            Matcher m = METHOD.matcher(lines.get(k));
            if (m.matches()) {
                name = m.group(2);
                indent = m.group(1);
                begin = k;
                int parameters = m.group(3).isEmpty() ? 0 : m.group(3).split(",").length;
                Check.due("rule 11: parameters of " + name, parameters <= 7 ? 1 : 0, 1);
                boolean inside = indent.length() == 8;
                Check.due("rule 1: a name of the face inside, " + name, inside && List.of(FACE).contains(name) ? 1 : 0, 0);
            }
            if (!name.isEmpty() && lines.get(k).equals(indent + "}")) {
                Check.due("rule 11: length of " + name, k - begin < 60 ? 1 : 0, 1);
            }
        }
    }

    /** By names, so that methods of one name in several classes count as one; copyFrom is left out, whose calls go down by class. */
    private static void depth(List<String> lines) {
        Map<String, Set<String>> calls = new HashMap<>();
        String name = "";
        for (String line : lines) {
            Matcher m = METHOD.matcher(line);
            if (m.matches()) {
                name = m.group(2);
                calls.putIfAbsent(name, new HashSet<>());
            } else if (!name.isEmpty()) {
                Matcher call = Pattern.compile("\\b(\\w+)\\(").matcher(code(line));
                while (call.find()) {
                    calls.get(name).add(call.group(1));
                }
            }
        }
        calls.remove("copyFrom");
        for (String method : FACE) {
            int deep = deepest(method, calls, new ArrayList<>());
            Check.due("rule 11: " + method + " goes " + deep + " deep", deep <= 8 ? 1 : 0, 1);
        }
    }

    private static int deepest(String method, Map<String, Set<String>> calls, List<String> open) {
        if (!calls.containsKey(method) || open.contains(method) || !open.isEmpty() && List.of(FACE).contains(method)) {
            Check.due("rule 8: recursion at " + method, open.contains(method) ? 1 : 0, 0);
            return 0;
        }
        open.add(method);
        int deep = 0;
        for (String next : calls.get(method)) {
            deep = Math.max(deep, deepest(next, calls, open));
        }
        open.remove(method);
        return deep + 1;
    }
}
