import java.io.IOException;
import java.lang.reflect.Constructor;
import java.lang.reflect.Field;
import java.lang.reflect.Method;
import java.lang.reflect.Modifier;
import java.nio.file.Files;
import java.nio.file.Path;
import java.util.Set;
import java.util.TreeSet;
import java.util.regex.Matcher;
import java.util.regex.Pattern;

/** The face of the class is the document's, and its code keeps to those rules of LANGUAGE.md that can be read off it. */
public final class FaceTest {
    private static final int NONE_YET = -1;
    private static final Due DUE = new Due();
    private static final Set<String> METHODS = Set.of(
        "int write(long,int)", "int erase()", "int fault()", "int ladder()", "int rung(int,int)", "int climber(int,int)",
        "int as(int,int)", "int mind(int,int)", "int step(int,int)", "int climb(int)", "int lower(int)",
        "int judge(int,int)", "int keep(int)", "int back(int)", "int most(int,int)", "long ways(int)", "int largest(int)",
        "int order(int,int)", "int mends(int)", "int spoilt(int,int)", "int both(int)", "long odds(int,int)",
        "int fits(int,int)", "int make(int,int)", "int count(int)");
    private static final Set<String> CONSTANTS = Set.of("NONE", "UNKNOWN", "OUTSIDE", "NOT", "FULL");

    public static void main(String[] args) throws IOException {
        DUE.about("the face");
        Class<?> face = OldLadder.class;
        DUE.holds("public and final", Modifier.isPublic(face.getModifiers()) && Modifier.isFinal(face.getModifiers()));
        Set<String> names = methodsOf(face);
        constantsOf(face);
        Constructor<?>[] made = face.getDeclaredConstructors();
        DUE.holds("one constructor", made.length == 1 && Modifier.isPublic(made[0].getModifiers())
            && made[0].getParameterCount() == 0);
        insideOf(face, names);
        DUE.about("LANGUAGE.md");
        sourceKeepsRules(Files.readString(Path.of("src/main/java/OldLadder.java")));
        DUE.end("FaceTest");
    }

    private static Set<String> methodsOf(Class<?> face) {
        Set<String> found = new TreeSet<>();
        Set<String> names = new TreeSet<>();
        for (Method m : face.getDeclaredMethods()) {
            if (!Modifier.isPrivate(m.getModifiers())) {
                String full = m.toString().replaceAll("^public (.*) OldLadder\\.", "$1 ");
                found.add(full);
                names.add(m.getName());
            }
        }
        DUE.holds("the document's methods: " + found, found.equals(new TreeSet<>(METHODS)));
        noPrivateOfThatName(face, names);
        return names;
    }

    private static void noPrivateOfThatName(Class<?> one, Set<String> names) {
        for (Method m : one.getDeclaredMethods()) {
            boolean open = one == OldLadder.class && Modifier.isPublic(m.getModifiers());
            DUE.holds("rule 1: " + m, open || !names.contains(m.getName()));
            DUE.holds("rule 11: " + m, m.getParameterCount() <= 7);
        }
    }

    private static void constantsOf(Class<?> face) {
        Set<String> found = new TreeSet<>();
        for (Field f : face.getDeclaredFields()) {
            if (!Modifier.isPrivate(f.getModifiers())) {
                found.add(f.getName());
            }
            DUE.holds("rule 5: " + f, !Modifier.isStatic(f.getModifiers()) || Modifier.isFinal(f.getModifiers()));
        }
        DUE.holds("the document's constants: " + found, found.equals(new TreeSet<>(CONSTANTS)));
        DUE.is("NONE", OldLadder.NONE, -1);
        DUE.is("UNKNOWN", OldLadder.UNKNOWN, -2);
        DUE.is("OUTSIDE", OldLadder.OUTSIDE, -3);
        DUE.is("NOT", OldLadder.NOT, -4);
        DUE.is("FULL", OldLadder.FULL, -5);
    }

    private static void insideOf(Class<?> face, Set<String> names) {
        Class<?>[] inside = face.getDeclaredClasses();
        DUE.holds("rule 11: classes", inside.length <= 12);
        for (Class<?> one : inside) {
            int is = one.getModifiers();
            DUE.holds("rule 2: " + one, Modifier.isStatic(is) && !Modifier.isPublic(is) && !Modifier.isProtected(is));
            noPrivateOfThatName(one, names);
            int fields = 0;
            for (Field f : one.getDeclaredFields()) {
                fields += Modifier.isStatic(f.getModifiers()) ? 0 : 1;
                DUE.holds("rule 5: " + f, !Modifier.isStatic(f.getModifiers()) || Modifier.isFinal(f.getModifiers()));
            }
            DUE.holds("rule 11: fields of " + one, fields <= 20);
        }
    }

    private static void sourceKeepsRules(String source) {
        String code = source.replaceAll("(?s)/\\*.*?\\*/", "").replaceAll("//[^\n]*", "").replaceAll("\"[^\"\n]*\"", "\"\"");
        String[] never = {
            "\\b(throw|throws|try|catch|finally|synchronized|assert|import|package|native|volatile)\\b", "->", "::",
            "\\b(double|float|Object|Class|System\\.(?!arraycopy))\\b", "Exact\\(", "\\bnew\\s+\\w+\\s*\\([^)]*\\)\\s*\\{",
            "\\bwhile\\s*\\(\\s*true", "\\bfor\\s*\\([^;]*;\\s*;", "\\.(equals|hashCode|toString)\\(", "\\bstatic\\s*\\{"};
        for (String what : never) {
            Matcher m = Pattern.compile(what).matcher(code);
            DUE.holds("not in the code: " + what + (m.find() ? " (at '" + m.group() + "')" : ""), !m.reset().find());
        }
        for (int i = 0; i < source.length(); i++) {
            if (source.charAt(i) > 126) {
                DUE.holds("a sign beyond 126 at " + i, false);
            }
        }
        methodsAreShort(code);
    }

    private static void methodsAreShort(String code) {
        int from = NONE_YET;
        String[] lines = code.split("\n");
        for (int i = 0; i < lines.length; i++) {
            if (lines[i].matches("( {4}| {8})[a-z].*\\) \\{")) {
                from = i;
            } else if (lines[i].matches(" {4}\\}| {8}\\}") && from != NONE_YET) {
                DUE.holds("rule 11: '" + lines[from].trim() + "' is long", i - from < 60);
                from = NONE_YET;
            }
        }
    }
}
