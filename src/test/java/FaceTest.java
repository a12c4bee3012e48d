import java.lang.reflect.Field;
import java.lang.reflect.Method;
import java.lang.reflect.Modifier;
import java.util.Set;
import java.util.TreeSet;

/** The face: all that the document lists, and nothing else. */
public final class FaceTest {
    private static final String[] FACE = {
        "int status()", "long top()", "long bottom()", "boolean tray(int,int,int)",
        "boolean write(int,int,long)", "long read(int,int)", "boolean pour(int,int,int,int,int)",
        "int feed(int,int,int,int,int)", "int land(int)", "int days(int)", "int fault(int)",
        "int many(int)", "int road(int,int)", "int roadOf(int,int)", "int person(int,int)",
        "int gone(int,int)", "int owes(int,int)", "int net(int)", "int copyPlaces(int)",
        "int passes(int)", "int go(int,int)", "int lead(int,int,int)", "boolean turn(int)",
        "boolean cloud(boolean)", "boolean plant(int,boolean)", "boolean glasses(int,boolean)",
        "boolean cure(int,boolean)", "int settle(int,int)", "boolean rule(int,int)",
        "int glareAt(int)", "int can(int,int)", "int guides(int,int)", "int stuck()",
        "int reach(int)", "int nextGlare(int)", "int soonest(int,int)", "int soonestFirst(int,int)",
        "int soonestTwo(int,int,int)", "int meet(int,int)", "int meetIn(int,int)",
        "int plants(int,int)", "int plantSet(int,int)", "long ways(int,int,int,int)",
        "int pair(int)", "int pairs()", "int pairsOwe()", "int dearest(int)",
        "boolean clouds(int,int)", "int lostIn(int)", "int lostBy(int,int,int)",
        "int bestFrom(int)", "int arrives(int)", "int live(int)", "int lived(int)",
        "boolean mean(int,int)", "int mark()", "int back()"};

    private FaceTest() {
    }

    private static String textOf(Method m) {
        StringBuilder s = new StringBuilder();
        s.append(m.getReturnType()).append(' ').append(m.getName()).append('(');
        for (int i = 0; i < m.getParameterCount(); i++) {
            s.append(i == 0 ? "" : ",").append(m.getParameterTypes()[i]);
        }
        return s.append(')').toString();
    }

    public static void main(String[] args) {
        Set<String> open = new TreeSet<>();
        Set<String> openNames = new TreeSet<>();
        Set<String> hiddenNames = new TreeSet<>();
        for (Method m : NoonGuides.class.getDeclaredMethods()) {
            if (Modifier.isPrivate(m.getModifiers())) {
                hiddenNames.add(m.getName());
            } else {
                open.add(textOf(m));
                openNames.add(m.getName());
                Check.same(m + " is", m.getModifiers(), Modifier.PUBLIC);
            }
        }
        for (Class<?> inside : NoonGuides.class.getDeclaredClasses()) {
            Check.same(inside + " is static", Modifier.isStatic(inside.getModifiers()), true);
            for (Method m : inside.getDeclaredMethods()) {
                hiddenNames.add(m.getName());
            }
        }
        Check.same("the face", open, new TreeSet<>(Set.of(FACE)));
        hiddenNames.retainAll(openNames);
        Check.same("names told twice", hiddenNames, Set.of());
        for (Field f : NoonGuides.class.getDeclaredFields()) {
            if (!Modifier.isPrivate(f.getModifiers())) {
                Check.same("open field", f.getName(), "NONE");
                Check.same("its kind", f.getModifiers(),
                        Modifier.PUBLIC | Modifier.STATIC | Modifier.FINAL);
            }
        }
        Check.same("NONE", NoonGuides.NONE, -1);
        Check.same("constructors", NoonGuides.class.getDeclaredConstructors().length, 1);
        Check.same("the class", NoonGuides.class.getModifiers(), Modifier.PUBLIC | Modifier.FINAL);
        Check.same("calls by name", Calls.names().size(), FACE.length);
        Check.end("FaceTest");
    }
}
