import java.lang.reflect.Constructor;
import java.lang.reflect.Field;
import java.lang.reflect.Method;
import java.lang.reflect.Modifier;
import java.nio.file.Files;
import java.nio.file.Path;
import java.util.Arrays;
import java.util.Set;
import java.util.TreeSet;
import java.util.regex.Matcher;
import java.util.regex.Pattern;

/** The face is the document's and no more; the source keeps clear of what LANGUAGE.md rules out. */
public final class FaceTest {
    private static final String[] METHODS = {
        "feed(int)", "land()", "fault()", "told(int)", "town(int,int)", "road(int,int)", "stay()", "walk(int)",
        "war(int,boolean)", "home()", "drift(int)", "undo()", "may(int)", "reach(int)", "best(int,int)", "seals(int)",
        "two(int)", "idle()", "stranded()", "snow(int,int)", "seal(int,int)", "fits()", "bought()", "was(int)", "ask()",
        "write(int)", "tear()", "judge()", "seed(int)", "keep(int)", "goBack(int)"
    };
    private static final String[] RULED_OUT = {
        "\\bthrow\\b", "\\btry\\b", "\\bcatch\\b", "\\bsynchronized\\b", "\\bassert\\b", "->", "::",
        "\\bSystem\\.(?!arraycopy)", "\\bRandom\\b", "\\bThread\\b", "Exact\\b", "^package\\b", "^import\\b"
    };

    public static void main(String[] args) throws Exception {
        constants();
        methods();
        fieldsAndConstructors();
        classesInside(JourneyRoads.class);
        source();
        Check.end("FaceTest");
    }

    private static void constants() {
        Check.due("NONE", JourneyRoads.NONE, -1);
        Check.due("UNKNOWN", JourneyRoads.UNKNOWN, -1000000001);
        Check.due("OUTSIDE", JourneyRoads.OUTSIDE, -1000000002);
        Check.due("NOT", JourneyRoads.NOT, -1000000003);
        Check.due("FULL", JourneyRoads.FULL, -1000000004);
    }

    private static Set<String> publicNames() {
        Set<String> names = new TreeSet<>();
        for (String method : METHODS) {
            names.add(method.substring(0, method.indexOf('(')));
        }
        return names;
    }

    private static void methods() {
        Set<String> wanted = new TreeSet<>(Arrays.asList(METHODS));
        Set<String> names = publicNames();
        Set<String> found = new TreeSet<>();
        for (Method m : JourneyRoads.class.getDeclaredMethods()) {
            if (Modifier.isPublic(m.getModifiers())) {
                StringBuilder face = new StringBuilder(m.getName()).append('(');
                for (int i = 0; i < m.getParameterCount(); i++) {
                    face.append(i == 0 ? "" : ",").append(m.getParameterTypes()[i].getName());
                }
                found.add(face.append(')').toString());
                holds(m + " answers an int", m.getReturnType() == int.class && !Modifier.isStatic(m.getModifiers()));
            } else {
                holds(m + " is private", Modifier.isPrivate(m.getModifiers()));
                holds(m + " bears no public name", !names.contains(m.getName()));
            }
        }
        holds("the methods are " + wanted + ", found " + found, wanted.equals(found));
    }

    private static void fieldsAndConstructors() {
        holds("the class is public and final",
            (JourneyRoads.class.getModifiers() & (Modifier.PUBLIC | Modifier.FINAL)) == (Modifier.PUBLIC | Modifier.FINAL));
        int open = 0;
        for (Field f : JourneyRoads.class.getDeclaredFields()) {
            open += Modifier.isPublic(f.getModifiers()) ? 1 : 0;
            holds(f + " is public or private", (f.getModifiers() & (Modifier.PUBLIC | Modifier.PRIVATE)) != 0);
        }
        Check.due("public constants", open, 5);
        Constructor<?>[] made = JourneyRoads.class.getDeclaredConstructors();
        Check.due("constructors", made.length, 1);
        holds("the constructor is public, without arguments",
            Modifier.isPublic(made[0].getModifiers()) && made[0].getParameterCount() == 0);
    }

    private static void classesInside(Class<?> outer) {
        holds("twelve classes at most", outer.getDeclaredClasses().length < 12);
        for (Class<?> inside : outer.getDeclaredClasses()) {
            int is = inside.getModifiers();
            holds(inside + " is static", Modifier.isStatic(is));
            holds(inside + " is not of the face", !Modifier.isPublic(is) && !Modifier.isProtected(is));
            for (Method m : inside.getDeclaredMethods()) {
                holds(m + " has seven parameters at most", m.getParameterCount() <= 7);
                holds(m + " bears no public name", !publicNames().contains(m.getName()));
            }
        }
    }

    private static void source() throws Exception {
        String text = Files.readString(Path.of("src/main/java/JourneyRoads.java"));
        String code = text.replaceAll("(?s)/\\*.*?\\*/", "").replaceAll("//[^\n]*", "");
        for (String rule : RULED_OUT) {
            Matcher m = Pattern.compile(rule, Pattern.MULTILINE).matcher(code);
            holds("the source has no " + rule, !m.find());
        }
        for (int i = 0; i < text.length(); i++) {
            char c = text.charAt(i);
            if (c > 126 || c < 32 && c != '\n') {
                holds("plain signs alone, not " + (int) c, false);
            }
        }
    }

    private static void holds(String what, boolean is) {
        Check.due(what, is ? 1 : 0, 1);
    }
}
