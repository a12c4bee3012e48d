import java.io.IOException;
import java.lang.reflect.Field;
import java.lang.reflect.Method;
import java.lang.reflect.Modifier;
import java.nio.file.Files;
import java.nio.file.Path;
import java.util.ArrayList;
import java.util.List;
import java.util.regex.Matcher;
import java.util.regex.Pattern;

/** Rules of LANGUAGE.md that can be seen from the source, or from the class. */
public final class LanguageTest {
    private static final Path SOURCE = Path.of("src/main/java/NoonGuides.java");
    private static final String[] FORBIDDEN = {"import", "package", "->", "::", "\\btry\\b",
        "\\bcatch\\b", "\\bthrow\\b", "\\bfinally\\b", "\\bsynchronized\\b", "\\bassert\\b",
        "\\bstatic \\{", "\\bdouble\\b", "\\bfloat\\b", "Exact", "\"\\s*\\+", "\\+\\s*\"",
        "\\bequals\\b", "\\bhashCode\\b", "\\btoString\\b", "\\bprotected\\b", "\\bSystem\\.(?!arraycopy)",
        "\\bArrays\\b", "\\bwhile \\(true\\)", "for \\(;;\\)"};

    private LanguageTest() {
    }

    public static void main(String[] args) throws IOException {
        List<String> lines = Files.readAllLines(SOURCE);
        forbidden(lines);
        methods(lines);
        classes();
        Check.end("LanguageTest");
    }

    private static void forbidden(List<String> lines) {
        for (String pattern : FORBIDDEN) {
            Pattern p = Pattern.compile(pattern);
            for (int i = 0; i < lines.size(); i++) {
                String line = lines.get(i);
                boolean isComment = line.trim().startsWith("*") || line.trim().startsWith("/")
                        || line.trim().startsWith("//");
                Check.same("line " + (i + 1) + " has " + pattern,
                        !isComment && p.matcher(line).find(), false);
            }
        }
        for (int i = 0; i < lines.size(); i++) {
            for (char c : lines.get(i).toCharArray()) {
                Check.same("line " + (i + 1) + " has the sign " + (int) c, c < 128, true);
            }
        }
    }

    /** A method's lines: from its head to the brace as far in as the head. */
    private static void methods(List<String> lines) {
        Pattern head = Pattern.compile("^( +)(?=\\S)(?!return|else|if|for|while|switch|case)[\\w\\[\\] ]+\\("
                + "([^()]*)(\\) \\{)?$");
        for (int i = 0; i < lines.size(); i++) {
            Matcher m = head.matcher(lines.get(i));
            if (m.find() && (lines.get(i).endsWith("{"))) {
                int end = i + 1;
                while (end < lines.size() && !lines.get(end).equals(m.group(1) + "}")) {
                    end++;
                }
                Check.same("line " + (i + 1) + " is a short method", end - i <= 60, true);
            }
        }
    }

    private static void classes() {
        List<Class<?>> all = new ArrayList<>(List.of(NoonGuides.class.getDeclaredClasses()));
        all.add(NoonGuides.class);
        Check.same("at most twelve classes", all.size() <= 12, true);
        for (Class<?> c : all) {
            int fields = 0;
            for (Field f : c.getDeclaredFields()) {
                boolean isStatic = Modifier.isStatic(f.getModifiers());
                fields += isStatic ? 0 : 1;
                Check.same(f + " is final if static",
                        !isStatic || Modifier.isFinal(f.getModifiers()), true);
                Check.same(f + " is a constant", !isStatic || f.getType().isPrimitive()
                        || f.getType() == String.class, true);
            }
            Check.same(c + " has at most twenty fields: " + fields, fields <= 20, true);
            for (Method m : c.getDeclaredMethods()) {
                Check.same(m + " takes at most seven", m.getParameterCount() <= 7, true);
            }
        }
    }
}
