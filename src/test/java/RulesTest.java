import java.io.IOException;
import java.lang.reflect.Constructor;
import java.lang.reflect.Field;
import java.lang.reflect.Member;
import java.lang.reflect.Method;
import java.lang.reflect.Modifier;
import java.nio.file.Files;
import java.nio.file.Path;
import java.util.List;
import java.util.Set;
import java.util.TreeSet;
import java.util.regex.Matcher;
import java.util.regex.Pattern;

/** The face of the class, and what of LANGUAGE.md can be seen from outside or in the source. */
public final class RulesTest {
    private static final Check check = new Check("RulesTest");
    private static final Path SOURCE = Path.of("src/main/java/ClaySlips.java");
    private static final Set<String> FACE = Set.of(
        "int street(int)", "int water(int,int)", "int man(int,int)", "int write(int,int)", "int rub(int)",
        "int fault(int)", "int type(long,int)", "int clear()", "int read()", "int step()", "int undo()",
        "int of(int,int)", "int in(int)", "int run(int,int,int)", "int stops()", "int again(int)",
        "int rubbed(int,int)", "int danger(int)", "int thief(int,int)", "int shortest(int,int,int,int)",
        "int seen(int,int)", "int said(int,int)", "int emptied(int,int,int)", "int image(int)", "int from(int)",
        "int status(int)", "int count(int)", "long digest()");

    public static void main(String[] args) throws IOException {
        face();
        members(ClaySlips.class);
        for (Class<?> inside : ClaySlips.class.getDeclaredClasses()) {
            check.due("static: " + inside, Modifier.isStatic(inside.getModifiers()) ? 1 : 0, 1);
            check.due("not public: " + inside, open(inside.getModifiers()) ? 1 : 0, 0);
            members(inside);
        }
        check.due("classes", ClaySlips.class.getDeclaredClasses().length <= 12 ? 1 : 0, 1);
        source();
        check.end();
    }

    private static boolean open(int modifiers) {
        return Modifier.isPublic(modifiers) || Modifier.isProtected(modifiers);
    }

    private static void face() {
        int modifiers = ClaySlips.class.getModifiers();
        check.due("public and final", Modifier.isPublic(modifiers) && Modifier.isFinal(modifiers) ? 1 : 0, 1);
        Set<String> shown = new TreeSet<>();
        Set<String> names = new TreeSet<>();
        for (Method m : ClaySlips.class.getDeclaredMethods()) {
            if (Modifier.isPublic(m.getModifiers()) && !Modifier.isStatic(m.getModifiers())) {
                StringBuilder s = new StringBuilder(m.getReturnType() + " " + m.getName() + "(");
                for (Class<?> p : m.getParameterTypes()) {
                    s.append(s.charAt(s.length() - 1) == '(' ? "" : ",").append(p);
                }
                shown.add(s + ")");
                names.add(m.getName());
            }
        }
        check.due("the face " + shown, shown.equals(FACE) ? 1 : 0, 1);
        for (Method m : ClaySlips.class.getDeclaredMethods()) {
            if (Modifier.isPrivate(m.getModifiers())) {
                check.due("a name of the face: " + m, names.contains(m.getName()) ? 1 : 0, 0);
            } else {
                check.due("of the face: " + m, names.contains(m.getName()) ? 1 : 0, 1);
            }
        }
        Constructor<?>[] constructors = ClaySlips.class.getDeclaredConstructors();
        check.due("constructors", constructors.length, 1);
        check.due("constructor public", Modifier.isPublic(constructors[0].getModifiers()) ? 1 : 0, 1);
        Set<String> constants = Set.of("NONE", "BAD", "NO", "FULL");
        for (Field f : ClaySlips.class.getDeclaredFields()) {
            boolean hidden = Modifier.isPrivate(f.getModifiers());
            check.due("field " + f, hidden != constants.contains(f.getName()) ? 1 : 0, 1);
        }
    }

    private static void members(Class<?> type) {
        int fields = 0;
        for (Field f : type.getDeclaredFields()) {
            if (Modifier.isStatic(f.getModifiers())) {
                check.due("final: " + f, Modifier.isFinal(f.getModifiers()) ? 1 : 0, 1);
            } else {
                fields++;
            }
        }
        check.due("fields of " + type + ": " + fields, fields <= 20 ? 1 : 0, 1);
        for (Method m : type.getDeclaredMethods()) {
            check.due("parameters of " + m, m.getParameterCount() <= 7 ? 1 : 0, 1);
            check.due("no such method: " + m, Set.of("equals", "hashCode", "toString").contains(m.getName()) ? 1 : 0, 0);
        }
    }

    private static void source() throws IOException {
        String all = Files.readString(SOURCE);
        check.due("signs 0 to 255", all.chars().filter(c -> c > 255).count(), 0);
        String bare = all.replaceAll("(?s)/\\*.*?\\*/", "").replaceAll("//[^\n]*", "")
            .replaceAll("\"(\\\\.|[^\"\\\\])*\"", "TEXT").replaceAll("'(\\\\.|[^'\\\\])+'", "SIGN");
        Matcher word = Pattern.compile("\\b(throws?|try|catch|finally|synchronized|assert|import|package|double|float"
            + "|yield|volatile|transient|native|Object|Exception|Thread|System\\.(?!arraycopy)\\w+|Math\\.\\w+Exact"
            + "|static\\s*\\{)|->|::|TEXT\\s*\\+|\\+\\s*TEXT").matcher(bare);
        while (word.find()) {
            check.due("ruled out: " + word.group(), 1, 0);
        }
        List<String> lines = all.lines().toList();
        for (int i = 0; i < lines.size(); i++) {
            String line = lines.get(i);
            if (line.matches("\\s*(while|for) .*")) {
                check.due("a bound in the loop's own line: " + line.strip(), line.matches(".*\\w (<|<=|>|>=) \\w.*") ? 1 : 0, 1);
            }
            String margin = line.substring(0, line.length() - line.stripLeading().length());
            if (line.matches(" +(?!(if|for|while|switch|else|\\}|do) ?)[^(]*\\w\\([^()]*\\) \\{")) {
                int end = i;
                while (!lines.get(end).equals(margin + "}")) {
                    end++;
                }
                check.due("lines of " + line.strip(), end - i < 60 ? 1 : 0, 1);
            }
        }
    }
}
