import java.io.IOException;
import java.nio.file.Files;
import java.nio.file.Path;
import java.util.ArrayDeque;
import java.util.Deque;
import java.util.List;
import java.util.Map;
import java.util.Set;
import java.util.TreeMap;
import java.util.TreeSet;
import java.util.regex.Matcher;
import java.util.regex.Pattern;

/** LANGUAGE.md, rule 11: "calls that are no recursion go at most eight deep", a call of the face
 * counted as the first; and there is no recursion. Read from the source: a name called on another
 * object is any method of that name outside the class. */
public final class DepthTest {
    private static final int MOST = 8;
    private static final Pattern CLASS =
            Pattern.compile("^ *(?:\\w+ )*class (\\w+)(?: extends (\\w+))? \\{$");
    private static final Pattern HEAD = Pattern.compile(
            "^( +)(?:(?:public|private|static|abstract|final) )*[\\w\\[\\]]+ (\\w+)\\([^()]*\\) \\{$");
    private static final Pattern CALL = Pattern.compile("(\\.?)\\b(\\w+)\\(");

    /** "Class.method" to all that it calls. */
    private final Map<String, Set<String>> calls = new TreeMap<>();
    private final Map<String, String> bodies = new TreeMap<>();
    private final Map<String, String> above = new TreeMap<>();
    private final Map<String, Integer> known = new TreeMap<>();
    private final Deque<String> open = new ArrayDeque<>();

    private DepthTest(List<String> lines) {
        readBodies(lines);
        bodies.forEach((name, body) -> calls.put(name, callsOf(name, body)));
    }

    public static void main(String[] args) throws IOException {
        DepthTest test = new DepthTest(
                Files.readAllLines(Path.of("src/main/java/NoonGuides.java")));
        Check.same("methods are found", test.calls.size() > 150, true);
        int most = 0;
        for (String name : test.calls.keySet()) {
            int depth = test.depth(name);
            Check.same(name + " goes " + depth + " deep", depth <= MOST, true);
            most = Math.max(most, depth);
        }
        Check.same("the deepest is found", most > 5, true);
        Check.end("DepthTest");
    }

    private void readBodies(List<String> lines) {
        Deque<String> inside = new ArrayDeque<>();
        for (int i = 0; i < lines.size(); i++) {
            Matcher type = CLASS.matcher(lines.get(i));
            Matcher head = HEAD.matcher(lines.get(i));
            if (type.find()) {
                inside.push(type.group(1));
                above.put(type.group(1), type.group(2) == null ? "" : type.group(2));
            } else if (lines.get(i).equals("    }") && inside.size() > 1) {
                inside.pop();
            } else if (head.find()) {
                StringBuilder body = new StringBuilder();
                while (!lines.get(i + 1).equals(head.group(1) + "}")) {
                    i++;
                    body.append(lines.get(i)).append('\n');
                }
                i++;
                bodies.merge(inside.peek() + "." + head.group(2), body.toString(), String::concat);
            }
        }
    }

    private Set<String> callsOf(String caller, String body) {
        String type = caller.substring(0, caller.indexOf('.'));
        Set<String> all = new TreeSet<>();
        Matcher m = CALL.matcher(body);
        while (m.find()) {
            String own = bodies.containsKey(type + "." + m.group(2)) ? type : above.get(type);
            for (String name : bodies.keySet()) {
                boolean isNamed = name.endsWith("." + m.group(2));
                boolean isOwn = name.startsWith(own + ".");
                if (isNamed && isOwn == m.group(1).isEmpty()) {
                    all.add(name);
                }
            }
        }
        return all;
    }

    private int depth(String name) {
        if (known.containsKey(name)) {
            return known.get(name);
        }
        if (open.contains(name)) {
            Check.same(name + " calls itself by " + open, true, false);
            return MOST;
        }
        open.push(name);
        int deepest = 0;
        for (String called : calls.get(name)) {
            deepest = Math.max(deepest, depth(called));
        }
        open.pop();
        known.put(name, deepest + 1);
        return deepest + 1;
    }
}
