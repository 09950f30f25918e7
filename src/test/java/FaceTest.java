import java.io.IOException;
import java.lang.reflect.Constructor;
import java.lang.reflect.Field;
import java.lang.reflect.Method;
import java.lang.reflect.Modifier;
import java.nio.file.Files;
import java.nio.file.Path;
import java.util.Set;
import java.util.TreeSet;
import java.util.regex.Pattern;

/** The document's face and no other, and those rules of LANGUAGE.md that can be seen from outside. */
public final class FaceTest {
    private static final Set<String> METHODS = Set.of(
            "state(int,int,int,int)", "put(int,int,int,int)", "get(int,int,int)", "remove(int,int,int)",
            "add(int,int,int)", "at(int,int,int)", "clear(int,int)", "held(int,int,boolean)", "left(int,int,int)",
            "tick(int)", "watermark(int)", "sweep(int)", "setting(int,int,boolean)", "mark(int)", "restore(int)",
            "row(int,int)", "place(int,int,int)", "next(int)", "count(int)");
    private static final Set<String> CONSTANTS = Set.of("BAD", "NO", "FULL", "NONE");
    private static final String[] BARRED = {"throw", "try", "catch", "synchronized", "assert", "->", "::",
        "import static", "package", "System.out", "hashCode", "toString", "protected"};
    private static final Check CHECK = new Check("FaceTest");

    public static void main(String[] args) throws IOException {
        constants();
        face();
        privateNames();
        source(Files.readString(Path.of("src/main/java/StateEnds.java")));
        CHECK.end();
    }

    private static void constants() {
        CHECK.part("the constants");
        CHECK.due("BAD", StateEnds.BAD, -1);
        CHECK.due("NO", StateEnds.NO, -2);
        CHECK.due("FULL", StateEnds.FULL, -3);
        CHECK.due("NONE", StateEnds.NONE, -99999999);
    }

    private static void face() {
        CHECK.part("the face");
        int of = StateEnds.class.getModifiers();
        CHECK.holds("public and final", Modifier.isPublic(of) && Modifier.isFinal(of));
        Set<String> methods = new TreeSet<>();
        for (Method m : StateEnds.class.getDeclaredMethods()) {
            if (Modifier.isPublic(m.getModifiers())) {
                methods.add(signature(m));
                CHECK.holds(m.getName() + " answers an int", m.getReturnType() == int.class);
                CHECK.holds(m.getName() + " is not static", !Modifier.isStatic(m.getModifiers()));
            } else {
                CHECK.holds(m.getName() + " is private", Modifier.isPrivate(m.getModifiers()));
            }
        }
        CHECK.holds("the methods are those of the document: " + methods, methods.equals(METHODS));
        Set<String> constants = new TreeSet<>();
        for (Field f : StateEnds.class.getDeclaredFields()) {
            if (Modifier.isPublic(f.getModifiers())) {
                constants.add(f.getName());
            } else {
                CHECK.holds(f.getName() + " is private", Modifier.isPrivate(f.getModifiers()));
            }
            CHECK.holds(f.getName() + ": static is final",
                    !Modifier.isStatic(f.getModifiers()) || Modifier.isFinal(f.getModifiers()));
        }
        CHECK.holds("the constants are those of the document: " + constants, constants.equals(CONSTANTS));
        Constructor<?>[] made = StateEnds.class.getDeclaredConstructors();
        CHECK.holds("one public constructor without parameters", made.length == 1
                && Modifier.isPublic(made[0].getModifiers()) && made[0].getParameterCount() == 0);
    }

    private static String signature(Method m) {
        StringBuilder text = new StringBuilder(m.getName()).append('(');
        for (Class<?> p : m.getParameterTypes()) {
            text.append(text.charAt(text.length() - 1) == '(' ? "" : ",").append(p.getName());
        }
        return text.append(')').toString();
    }

    private static void privateNames() {
        CHECK.part("the classes inside");
        Set<String> names = new TreeSet<>();
        METHODS.forEach(m -> names.add(m.substring(0, m.indexOf('('))));
        for (Method m : StateEnds.class.getDeclaredMethods()) {
            CHECK.holds("private " + m.getName() + " bears no public name",
                    Modifier.isPublic(m.getModifiers()) || !names.contains(m.getName()));
        }
        Class<?>[] inside = StateEnds.class.getDeclaredClasses();
        CHECK.holds("at most twelve classes", inside.length < 12);
        for (Class<?> c : inside) {
            CHECK.holds(c.getName() + " is static", Modifier.isStatic(c.getModifiers()));
            CHECK.holds(c.getName() + " is not public", !Modifier.isPublic(c.getModifiers()));
            CHECK.holds(c.getName() + " has at most twenty fields", c.getDeclaredFields().length <= 20);
            for (Method m : c.getDeclaredMethods()) {
                CHECK.holds(c.getName() + "." + m.getName() + " bears no public name", !names.contains(m.getName()));
            }
        }
    }

    private static void source(String text) {
        CHECK.part("the source");
        String code = text.replaceAll("(?s)/\\*.*?\\*/", "").replaceAll("//[^\n]*", "");
        for (String word : BARRED) {
            boolean isWord = Character.isLetter(word.charAt(0));
            String pattern = isWord ? "\\b" + Pattern.quote(word) + "\\b" : Pattern.quote(word);
            CHECK.holds("no " + word, !Pattern.compile(pattern).matcher(code).find());
        }
        CHECK.holds("no function whose name ends in Exact", !Pattern.compile("Exact\\b").matcher(code).find());
        java.util.regex.Matcher imports = Pattern.compile("import ([^;]*);").matcher(code);
        while (imports.find()) {
            CHECK.holds("import " + imports.group(1), imports.group(1).equals("java.util.Arrays"));
        }
        CHECK.holds("characters 0 to 255", text.chars().allMatch(c -> c <= 255));
    }
}
