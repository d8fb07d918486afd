import java.lang.reflect.Field;
import java.lang.reflect.Member;
import java.lang.reflect.Method;
import java.lang.reflect.Modifier;
import java.nio.file.Files;
import java.nio.file.Path;
import java.util.ArrayList;
import java.util.Arrays;
import java.util.List;
import java.util.Set;
import java.util.TreeSet;
import java.util.regex.Matcher;
import java.util.regex.Pattern;

/** What can be told by machine of the rules in LANGUAGE.md and of the document's face. */
public final class LanguageTest {
    private static final String[] FACE = {
        "int hill(int,int)", "int track(int,int)", "int height(int,int)", "int one(int,int)", "int type(int)",
        "int clear()", "int read()", "int sell(int)", "int leave(int)", "int moves(int,int)", "int undo()",
        "int of(int,int)", "int yard(int,int)", "int sees(int,int)", "int gives(int,int)", "int auction(int,int)",
        "int hurt(int,int)", "int best(int,int)", "int all(int)", "int move(int)", "int note(int,int,int,int)",
        "int forget()", "int is(int)", "int offer(int)", "int two(int,int,int)", "int clouds(int)",
        "int eclipses(int,int)", "long part(int)", "int image(int)", "int from(int)", "int status(int)",
        "int count(int)", "long digest()",
    };
    private static final String FORBIDDEN = "\\b(package|import|throw|throws|try|catch|synchronized|assert|protected|double|"
            + "float|Object|HashMap|Thread|Runtime|native|volatile|transient|interface|\\w+Exact)\\b|->|::|@|\"\\s*\\+|\\+\\s*\"";

    public static void main(String[] args) throws Exception {
        faceStands();
        String source = Files.readString(Path.of("src/main/java/EclipseSeats.java"));
        String code = withoutComments(source);
        Matcher forbidden = Pattern.compile(FORBIDDEN).matcher(code);
        while (forbidden.find()) {
            tell("a word that the rules leave out: " + forbidden.group());
        }
        for (int i = 0; i < source.length(); i++) {
            if (source.charAt(i) > 126) {
                tell("a sign above 126 at " + i);
            }
        }
        objectsAreMadeAheadOfCalls(code);
        elementsAreLookedAt(code);
        methodsAreShort(source);
        classesAreSmall();
        Due.end();
    }

    private static void tell(String what) {
        Due.due(what, 1, 0);
    }

    private static String withoutComments(String source) {
        return source.replaceAll("(?s)/\\*.*?\\*/", " ").replaceAll("//[^\n]*", " ");
    }

    private static void faceStands() {
        Class<?> c = EclipseSeats.class;
        Set<String> found = new TreeSet<>();
        Set<String> names = new TreeSet<>();
        for (Method m : c.getDeclaredMethods()) {
            if (Modifier.isPublic(m.getModifiers())) {
                List<String> types = new ArrayList<>();
                for (Class<?> t : m.getParameterTypes()) {
                    types.add(t.getName());
                }
                found.add(m.getReturnType() + " " + m.getName() + "(" + String.join(",", types) + ")");
                names.add(m.getName());
            }
        }
        if (!found.equals(new TreeSet<>(Arrays.asList(FACE)))) {
            tell("the face is " + found);
        }
        Due.due("constructors", c.getDeclaredConstructors().length, 1);
        Due.due("public and final", c.getModifiers() & (Modifier.PUBLIC | Modifier.FINAL), Modifier.PUBLIC | Modifier.FINAL);
        membersArePrivate(c.getDeclaredMethods());
        membersArePrivate(c.getDeclaredFields());
        for (Class<?> inside : c.getDeclaredClasses()) {
            if (!Modifier.isStatic(inside.getModifiers())) {
                tell("not static: " + inside);
            }
            for (Method m : inside.getDeclaredMethods()) {
                if (names.contains(m.getName())) {
                    tell("the name of a public method: " + m);
                }
            }
        }
        for (Method m : c.getDeclaredMethods()) {
            if (Modifier.isPrivate(m.getModifiers()) && names.contains(m.getName())) {
                tell("the name of a public method: " + m);
            }
        }
    }

    private static void membersArePrivate(Member[] members) {
        Set<String> constants = Set.of("NONE", "BAD", "NO", "FULL");
        for (Member m : members) {
            boolean ofFace = m instanceof Method || constants.contains(m.getName());
            boolean ok = Modifier.isPrivate(m.getModifiers()) || (ofFace && Modifier.isPublic(m.getModifiers()));
            if (!ok) {
                tell("seen from outside: " + m);
            }
        }
    }

    /** "new" stands in fields alone, but for an image, which the first call that keeps it makes. */
    private static void objectsAreMadeAheadOfCalls(String code) {
        for (String line : code.split("\n")) {
            if (line.matches(".*\\bnew\\b.*") && !line.matches("\\s*(private )?final .*") && !line.contains("image = new Hill()")) {
                tell("an object is made in a call: " + line.trim());
            }
        }
    }

    /** Rule 7: what an array of objects holds may be null, so it is looked at first, in a variable of its own. */
    private static void elementsAreLookedAt(String code) {
        Matcher array = Pattern.compile("\\b[A-Z]\\w*\\[\\] (\\w+)").matcher(code);
        while (array.find()) {
            Matcher used = Pattern.compile("\\b" + array.group(1) + "\\[[^\\]]*\\]\\s*\\.").matcher(code);
            while (used.find()) {
                tell("used before it is looked at: " + used.group());
            }
            Matcher taken = Pattern.compile("(\\w+) = " + array.group(1) + "\\[[^\\]]*\\];\\s*(.*)").matcher(code);
            while (taken.find()) {
                if (!taken.group(2).equals("if (" + taken.group(1) + " == null) {")) {
                    tell("not looked at: " + taken.group());
                }
            }
        }
    }

    /** Rule 11: a method begins on a line that no word of a statement begins, and ends at its own brace. */
    private static void methodsAreShort(String source) {
        Matcher method = Pattern.compile("(?ms)^(    |        )(?!if|for|while|do|switch|else|\\}|\\s)[^\\n;]*\\) \\{$.*?^\\1\\}$").matcher(source);
        int methods = 0;
        while (method.find()) {
            methods++;
            if (method.group().lines().count() > 60) {
                tell("more than sixty lines: " + method.group().lines().findFirst().get().trim());
            }
        }
        if (methods < FACE.length) {
            tell("not all methods were found: " + methods);
        }
    }

    private static void classesAreSmall() {
        Class<?>[] inside = EclipseSeats.class.getDeclaredClasses();
        if (inside.length + 1 > 12) {
            tell("more than 12 classes");
        }
        List<Class<?>> every = new ArrayList<>(Arrays.asList(inside));
        every.add(EclipseSeats.class);
        for (Class<?> c : every) {
            int fields = 0;
            for (Field f : c.getDeclaredFields()) {
                boolean constant = Modifier.isStatic(f.getModifiers());
                if (constant && !Modifier.isFinal(f.getModifiers())) {
                    tell("a static field that is not final: " + f);
                }
                fields += constant ? 0 : 1;
            }
            if (fields > 20) {
                tell("more than 20 fields in " + c);
            }
            for (Method m : c.getDeclaredMethods()) {
                if (m.getParameterCount() > 7) {
                    tell("more than seven parameters: " + m);
                }
            }
        }
    }
}
