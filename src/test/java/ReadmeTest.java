import java.io.IOException;
import java.nio.file.Files;
import java.nio.file.Path;
import java.util.ArrayList;
import java.util.List;
import java.util.Set;
import java.util.TreeSet;
import java.util.regex.Matcher;
import java.util.regex.Pattern;

/** README.md: its example answers as it says, and it leaves out no call, no STATUS and no test. */
public final class ReadmeTest {
    private static final Path README = Path.of("README.md");
    private static final Path TESTS = Path.of("src/test/java");
    /** A call of the example, and what stands behind it. */
    private static final Pattern CALL = Pattern.compile("x\\.(\\w+)\\((.*)\\);\\s*// (-?\\w+)");
    private static final Pattern TOLD_TEXT = Pattern.compile("feed\\(x, \"(.*)\"\\)");

    private ReadmeTest() {
    }

    public static void main(String[] args) throws IOException {
        List<String> lines = Files.readAllLines(README);
        theExample(lines);
        theFeeding(lines);
        theCalls(lines);
        theStatuses(lines);
        theTests(lines);
        Check.end("ReadmeTest");
    }

    /** The lines between two ``` that hold some words. */
    private static List<String> fence(List<String> lines, String words) {
        List<String> inside = new ArrayList<>();
        boolean isInside = false;
        for (String line : lines) {
            if (line.startsWith("```")) {
                if (isInside && String.join("\n", inside).contains(words)) {
                    return inside;
                }
                isInside = !isInside;
                inside.clear();
            } else if (isInside) {
                inside.add(line);
            }
        }
        return List.of();
    }

    private static void theExample(List<String> lines) {
        NoonGuides x = new NoonGuides();
        int calls = 0;
        for (String line : fence(lines, "new NoonGuides()")) {
            Matcher call = CALL.matcher(line);
            if (call.find()) {
                calls++;
                Check.same(line, answer(x, call.group(1), call.group(2)), call.group(3));
            }
        }
        Check.same("calls of the example", calls, 22);
    }

    private static String answer(NoonGuides x, String name, String arguments) {
        Matcher text = TOLD_TEXT.matcher(arguments);
        long[] a = new long[Calls.arguments(name)];
        if (text.matches()) {
            a[0] = feed(x, text.group(1));
        } else if (a.length > 0) {
            String[] parts = arguments.split(", ");
            for (int i = 0; i < a.length; i++) {
                a[i] = Long.parseLong(parts[i]);
            }
        }
        long got = Calls.on(x, name, a);
        return Calls.IS_BOOLEAN.contains(name) ? String.valueOf(got == 1) : String.valueOf(got);
    }

    /** As it stands in README.md. */
    static int feed(NoonGuides x, String text) {
        for (int at = 0; at < text.length(); at += 20) {
            int[] five = new int[5];
            for (int i = 0; i < 20; i++) {
                int sign = at + i < text.length() ? text.charAt(at + i) : ' ';
                five[i / 4] |= sign << 24 - i % 4 * 8;
            }
            x.feed(five[0], five[1], five[2], five[3], five[4]);
        }
        return text.length();
    }

    private static void theFeeding(List<String> lines) throws IOException {
        StringBuilder told = new StringBuilder();
        for (String line : fence(lines, "static int feed(")) {
            told.append(line.isEmpty() ? "" : "    ").append(line).append('\n');
        }
        String here = Files.readString(TESTS.resolve("ReadmeTest.java"));
        Check.same("feed is told", told.length() > 0, true);
        Check.same("feed is as it is told", here.contains(told), true);
    }

    /** What stands between ` and ` in the tables, in their first column. */
    private static Set<String> named(List<String> lines, String pattern) {
        Set<String> all = new TreeSet<>();
        for (String line : lines) {
            if (line.startsWith("| `")) {
                Matcher m = Pattern.compile("`(" + pattern + ")`").matcher(line.split("\\|")[1]);
                while (m.find()) {
                    all.add(m.group(1));
                }
            }
        }
        return all;
    }

    private static void theCalls(List<String> lines) {
        Check.same("calls", named(lines, "[a-z]\\w*"), new TreeSet<>(Calls.names()));
    }

    private static void theStatuses(List<String> lines) {
        Set<Integer> all = new TreeSet<>();
        for (String line : lines) {
            Matcher m = Pattern.compile("\\| (\\d+) \\|.*").matcher(line);
            if (m.matches()) {
                all.add(Integer.parseInt(m.group(1)));
            }
        }
        Check.same("statuses", all, new TreeSet<>(List.of(0, 1, 2, 3, 4, 5, 6, 7, 8, 9, 10, 11)));
    }

    private static void theTests(List<String> lines) throws IOException {
        Set<String> files = new TreeSet<>();
        try (var all = Files.newDirectoryStream(TESTS, "*Test.java")) {
            for (Path file : all) {
                files.add(file.getFileName().toString().replace(".java", ""));
            }
        }
        Check.same("tests", named(lines, "[A-Z]\\w*Test"), files);
        String all = String.join("\n", lines);
        Check.same("a folder of its own is not committed",
                all.contains("-d out ") && Files.readString(Path.of(".gitignore")).contains("out/"),
                true);
        Check.same(".ci/run can be started", Files.isExecutable(Path.of(".ci/run")), true);
        Check.same(".ci/run is told", all.contains("    bash .ci/run\n"), true);
    }
}
