import java.io.IOException;
import java.lang.reflect.Field;
import java.lang.reflect.Method;
import java.lang.reflect.Modifier;
import java.nio.file.Files;
import java.nio.file.Path;
import java.util.ArrayList;
import java.util.List;
import java.util.Set;
import java.util.TreeSet;
import java.util.regex.Matcher;
import java.util.regex.Pattern;

/** "The public face": all that the document lists, as it is written and in its order, under the
 * headings that the document tells, and nothing else. */
public final class FaceTest {
    private static final Path SOURCE = Path.of("src/main/java/NoonGuides.java");
    private static final String[] FACE = {
        "int status()", "long top()", "long bottom()", "---- TRAYS",
        "boolean tray(int tray, int sort, int many)", "boolean write(int tray, int place, long v)",
        "long read(int tray, int place)", "boolean pour(int tray, int i, int to, int j, int many)",
        "---- texts", "int feed(int a, int b, int c, int d, int e)", "int land(int n)",
        "int days(int n)", "int fault(int what)", "int many(int what)",
        "int road(int road, int what)", "int roadOf(int place, int other)",
        "int person(int person, int what)", "int gone(int person, int road)",
        "int owes(int person, int other)", "int net(int person)", "int copyPlaces(int tray)",
        "---- what is done", "int passes(int minutes)", "int go(int person, int place)",
        "int lead(int person, int people, int place)", "boolean turn(int person)",
        "boolean cloud(boolean is)", "boolean plant(int road, boolean is)",
        "boolean glasses(int person, boolean is)", "boolean cure(int person, boolean sighted)",
        "int settle(int person, int other)", "boolean rule(int from, int till)", "---- who can",
        "int glareAt(int minute)", "int can(int person, int road)",
        "int guides(int place, int to)", "int stuck()", "int reach(int person)",
        "int nextGlare(int is)", "---- ways", "int soonest(int person, int place)",
        "int soonestFirst(int person, int place)",
        "int soonestTwo(int person, int other, int place)", "int meet(int person, int other)",
        "int meetIn(int person, int other)", "int plants(int person, int place)",
        "int plantSet(int person, int place)", "long ways(int person, int place, int to, int n)",
        "---- who with whom", "int pair(int person)", "int pairs()", "int pairsOwe()",
        "int dearest(int person)", "---- odds, other hours", "boolean clouds(int n, int k)",
        "int lostIn(int minutes)", "int lostBy(int minutes, int from, int till)",
        "int bestFrom(int minutes)", "int arrives(int person)", "---- DAYS", "int live(int seed)",
        "int lived(int what)", "boolean mean(int seed, int many)", "---- MARKS", "int mark()",
        "int back()"};

    private FaceTest() {
    }

    public static void main(String[] args) throws IOException {
        asItIsWritten();
        nothingElse();
        Check.end("FaceTest");
    }

    /** The calls with the names of what they take, and "Ahead of the calls .. the interface says" */
    private static void asItIsWritten() throws IOException {
        Pattern open = Pattern.compile("    public ((?:int|long|boolean) \\w+\\(.*\\)) \\{");
        List<String> written = new ArrayList<>();
        for (String line : Files.readAllLines(SOURCE)) {
            Matcher m = open.matcher(line);
            if (m.matches()) {
                written.add(m.group(1));
            } else if (line.startsWith("    // ---- ")) {
                written.add(line.substring(7));
            }
        }
        // ahead of status, top, bottom the document has no heading
        written.remove("---- what a call tells");
        Check.same("the face as it is written", written, List.of(FACE));
    }

    private static String textOf(Method m) {
        StringBuilder s = new StringBuilder();
        s.append(m.getReturnType()).append(' ').append(m.getName()).append('(');
        for (int i = 0; i < m.getParameterCount(); i++) {
            s.append(i == 0 ? "" : ", ").append(m.getParameterTypes()[i]);
        }
        return s.append(')').toString();
    }

    /** The calls of the face, each argument by its type alone. */
    private static Set<String> typesOfFace() {
        Set<String> all = new TreeSet<>();
        for (String line : FACE) {
            if (!line.startsWith("----")) {
                all.add(line.replaceAll("(int|long|boolean) \\w+(?=[,)])", "$1"));
            }
        }
        return all;
    }

    private static void nothingElse() {
        Set<String> open = new TreeSet<>();
        Set<String> openNames = new TreeSet<>();
        Set<String> hiddenNames = new TreeSet<>();
        for (Method m : NoonGuides.class.getDeclaredMethods()) {
            if (Modifier.isPrivate(m.getModifiers())) {
                hiddenNames.add(m.getName());
            } else {
                open.add(textOf(m));
                openNames.add(m.getName());
                Check.same(m + " is", m.getModifiers(), Modifier.PUBLIC);
            }
        }
        for (Class<?> inside : NoonGuides.class.getDeclaredClasses()) {
            Check.same(inside + " is static", Modifier.isStatic(inside.getModifiers()), true);
            for (Method m : inside.getDeclaredMethods()) {
                hiddenNames.add(m.getName());
            }
        }
        Check.same("the face", open, typesOfFace());
        hiddenNames.retainAll(openNames);
        Check.same("names told twice", hiddenNames, Set.of());
        for (Field f : NoonGuides.class.getDeclaredFields()) {
            if (!Modifier.isPrivate(f.getModifiers())) {
                Check.same("open field", f.getName(), "NONE");
                Check.same("its kind", f.getModifiers(),
                        Modifier.PUBLIC | Modifier.STATIC | Modifier.FINAL);
            }
        }
        Check.same("NONE", NoonGuides.NONE, -1);
        Check.same("constructors", NoonGuides.class.getDeclaredConstructors().length, 1);
        Check.same("the class", NoonGuides.class.getModifiers(), Modifier.PUBLIC | Modifier.FINAL);
        Check.same("calls by name", new TreeSet<>(Calls.names()), new TreeSet<>(openNames));
        for (String name : Calls.names()) {
            boolean is = open.stream().anyMatch(call -> call.startsWith("boolean " + name + "("));
            Check.same(name + " is boolean", Calls.IS_BOOLEAN.contains(name), is);
        }
    }
}
