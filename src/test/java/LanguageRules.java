import java.io.IOException;
import java.lang.reflect.Constructor;
import java.lang.reflect.Field;
import java.lang.reflect.Method;
import java.lang.reflect.Modifier;
import java.nio.file.Files;
import java.nio.file.Path;
import java.util.Arrays;
import java.util.Set;
import java.util.TreeSet;
import java.util.regex.Matcher;
import java.util.regex.Pattern;

/** The class against the document's face and against what can be seen of LANGUAGE.md from outside. */
public final class LanguageRules {
    private static final Checks CHECKS = new Checks();
    private static final Path SOURCE = Path.of("src/main/java/GrazedNames.java");

    private static final String[] FACE = {
        "int type(int)", "int clear()", "int meadow()", "int name(int, int)", "int act(int, int)", "int now(int)",
        "int sends(int)", "int calls(int)", "int acts(int)", "int month(int)", "int undo()", "int plan(int, int)",
        "int law(int)", "int mean(int)", "int home(int, int, int, int)", "int saw(int)", "int stray(int)",
        "int found(int, int)", "int can(int)", "int ask()", "int forget()", "int rate(int, int)", "int keep(int)",
        "int back(int)", "int count(int)", "long trace()"};

    private static final String[] CONSTANTS = {"BAD -1", "STATE -2", "FULL -3", "NONE -9", "NO -1000000"};

    public static void main(String[] args) throws IOException, IllegalAccessException {
        face();
        members();
        words();
        lengths();
        CHECKS.end();
    }

    private static String signature(Method m) {
        StringBuilder s = new StringBuilder();
        for (Class<?> type : m.getParameterTypes()) {
            s.append(s.length() == 0 ? "" : ", ").append(type.getName());
        }
        return m.getReturnType().getName() + " " + m.getName() + "(" + s + ")";
    }

    private static void face() throws IllegalAccessException {
        Set<String> methods = new TreeSet<>();
        Set<String> names = new TreeSet<>();
        for (Method m : GrazedNames.class.getDeclaredMethods()) {
            if (!Modifier.isPrivate(m.getModifiers())) {
                methods.add(signature(m));
                names.add(m.getName());
                CHECKS.holds(m + " is public and no more", m.getModifiers() == Modifier.PUBLIC);
            }
        }
        CHECKS.holds("the methods are the document's: " + methods, methods.equals(new TreeSet<>(Arrays.asList(FACE))));
        bearNoPublicName(GrazedNames.class, names);
        for (Class<?> inside : GrazedNames.class.getDeclaredClasses()) {
            bearNoPublicName(inside, names);
        }
        Set<String> constants = new TreeSet<>();
        for (Field f : GrazedNames.class.getDeclaredFields()) {
            if (!Modifier.isPrivate(f.getModifiers())) {
                constants.add(f.getName() + " " + f.get(null));
                CHECKS.holds(f + " is an int", f.getType() == int.class);
            }
        }
        CHECKS.holds("the constants: " + constants, constants.equals(new TreeSet<>(Arrays.asList(CONSTANTS))));
        Constructor<?>[] made = GrazedNames.class.getDeclaredConstructors();
        CHECKS.holds("one constructor", made.length == 1 && made[0].getParameterCount() == 0);
        CHECKS.holds("public", made.length == 1 && Modifier.isPublic(made[0].getModifiers()));
        CHECKS.due("public and final", GrazedNames.class.getModifiers(), Modifier.PUBLIC | Modifier.FINAL);
    }

    private static void bearNoPublicName(Class<?> c, Set<String> names) {
        for (Method m : c.getDeclaredMethods()) {
            boolean isFace = Modifier.isPublic(m.getModifiers());
            CHECKS.holds(m + " bears no public name", isFace || !names.contains(m.getName()));
        }
    }

    private static void members() {
        Class<?>[] inside = GrazedNames.class.getDeclaredClasses();
        CHECKS.holds("twelve classes at most", inside.length < 12);
        staticsAreFinal(GrazedNames.class);
        for (Class<?> c : inside) {
            int modifiers = c.getModifiers();
            CHECKS.holds(c + " is static", Modifier.isStatic(modifiers));
            CHECKS.holds(c + " is hidden", !Modifier.isPublic(modifiers) && !Modifier.isProtected(modifiers));
            staticsAreFinal(c);
        }
    }

    private static void staticsAreFinal(Class<?> c) {
        int own = 0;
        for (Field f : c.getDeclaredFields()) {
            boolean isStatic = Modifier.isStatic(f.getModifiers());
            own += isStatic ? 0 : 1;
            CHECKS.holds(f + " is final", !isStatic || Modifier.isFinal(f.getModifiers()));
        }
        CHECKS.holds(c + " has twenty fields at most", own <= 20);
        for (Method m : c.getDeclaredMethods()) {
            CHECKS.holds(m + " takes seven at most", m.getParameterCount() <= 7);
        }
    }

    private static void words() throws IOException {
        String source = Files.readString(SOURCE);
        CHECKS.holds("plain signs", source.chars().allMatch(c -> c < 128));
        String code = source.replaceAll("(?s)/\\*.*?\\*/", "").replaceAll("//[^\n]*", "");
        String[] never = {"throw", "throws", "try", "catch", "finally", "synchronized", "assert", "package", "import",
            "lambda", "float", "double", "equals", "hashCode", "toString", "null", "volatile", "native", "Object",
            "Thread", "Random", "Exact\\w*", "\\w+Exact", "static\\s*\\{", "->", "::", "\""};
        for (String word : never) {
            String bounded = Character.isLetter(word.charAt(0)) || word.startsWith("\\w") ? "\\b" + word : word;
            boolean whole = bounded.startsWith("\\b") && !word.endsWith("*") && !word.endsWith("{");
            Matcher m = Pattern.compile(whole ? bounded + "\\b" : bounded).matcher(code);
            CHECKS.holds("no " + word, !m.find());
        }
        Matcher library = Pattern.compile("\\b(System|Arrays|Math|Integer|Long|Character|String)\\.(\\w+)").matcher(code);
        Set<String> allowed = Set.of("System.arraycopy", "Math.min", "Math.max", "Math.floorMod", "Integer.bitCount",
            "Integer.MAX_VALUE");
        while (library.find()) {
            CHECKS.holds(library.group() + " is in the library", allowed.contains(library.group()));
        }
    }

    /** A method begins at its head's line and ends at the brace that stands in its column. */
    private static void lengths() throws IOException {
        String[] lines = Files.readString(SOURCE).split("\n");
        Pattern head = Pattern.compile("^( {4}| {8})[a-zA-Z][\\w\\[\\] ]*\\([^;]*\\{$");
        int methods = 0;
        for (int i = 0; i < lines.length; i++) {
            Matcher m = head.matcher(lines[i]);
            if (m.find() && !lines[i].matches(" *(if|for|while|switch)\\b.*")) {
                int end = i;
                while (end < lines.length && !lines[end].equals(m.group(1) + "}")) {
                    end++;
                }
                CHECKS.holds("short: " + lines[i].trim(), end - i + 1 <= 60);
                methods++;
            }
            CHECKS.holds("line " + (i + 1) + " is short", lines[i].length() <= 120);
        }
        CHECKS.holds("methods were looked at", methods > FACE.length);
    }
}
