import java.io.IOException;
import java.lang.reflect.InvocationTargetException;
import java.lang.reflect.Method;
import java.lang.reflect.Modifier;
import java.nio.file.DirectoryStream;
import java.nio.file.Files;
import java.nio.file.Path;
import java.util.Set;
import java.util.TreeSet;
import java.util.regex.Matcher;
import java.util.regex.Pattern;

/** README.md: the answers that it shows are those of the class, every call is shown, and every test is named. */
public final class ReadmeRuns {
    private static final Path PAGE = Path.of("README.md");
    private static final Path TESTS = Path.of("src/test/java");
    private static final Pattern BLOCK = Pattern.compile("```java\n(.*?)```", Pattern.DOTALL);
    private static final Pattern TEXT = Pattern.compile("String text = \"([^\"]*)\";");
    private static final Pattern SHOWN = Pattern.compile("(x\\.(\\w+)\\(([^)]*)\\));\\s+// (-?\\d+)(:.*)?");
    private static final Checks CHECKS = new Checks();

    private final GrazedNames x = new GrazedNames();
    private final Set<String> shown = new TreeSet<>();

    public static void main(String[] args) throws IOException {
        String page = Files.readString(PAGE);
        new ReadmeRuns().follow(page);
        constants(page);
        namesEachTest(page);
        CHECKS.end();
    }

    /** The page's blocks are one run, from the object that is made to the last call. */
    private void follow(String page) {
        Matcher block = BLOCK.matcher(page);
        while (block.find()) {
            for (String line : block.group(1).split("\n")) {
                followLine(line);
            }
        }
        for (Method m : GrazedNames.class.getDeclaredMethods()) {
            boolean isFace = Modifier.isPublic(m.getModifiers());
            CHECKS.holds(m.getName() + " is shown with an answer", !isFace || shown.contains(m.getName()));
        }
    }

    private void followLine(String line) {
        Matcher text = TEXT.matcher(line);
        Matcher call = SHOWN.matcher(line);
        if (text.matches()) {
            Checks.tell(x, text.group(1));
        } else if (call.matches()) {
            shown.add(call.group(2));
            CHECKS.due(call.group(1), answer(call.group(2), call.group(3)), Long.parseLong(call.group(4)));
        } else {
            CHECKS.holds("'" + line + "' shows an answer", !line.startsWith("x."));
        }
    }

    private long answer(String name, String list) {
        String[] given = list.isEmpty() ? new String[0] : list.split(", *");
        Object[] numbers = new Object[given.length];
        Class<?>[] types = new Class<?>[given.length];
        for (int i = 0; i < given.length; i++) {
            boolean isSign = given[i].startsWith("'");
            numbers[i] = isSign ? given[i].charAt(1) : Integer.parseInt(given[i]);
            types[i] = int.class;
        }
        try {
            Object answer = GrazedNames.class.getMethod(name, types).invoke(x, numbers);
            return ((Number) answer).longValue();
        } catch (NoSuchMethodException | IllegalAccessException | InvocationTargetException e) {
            CHECKS.holds(name + "(" + list + ") can be called: " + e, false);
            return Long.MIN_VALUE;
        }
    }

    private static void constants(String page) {
        String[] names = {"BAD", "STATE", "FULL", "NONE", "NO"};
        int[] numbers = {GrazedNames.BAD, GrazedNames.STATE, GrazedNames.FULL, GrazedNames.NONE, GrazedNames.NO};
        for (int i = 0; i < names.length; i++) {
            Matcher told = Pattern.compile("`" + names[i] + "`\\s+\\((-\\d+)\\)").matcher(page);
            CHECKS.holds(names[i] + " is told", told.find() && Integer.parseInt(told.group(1)) == numbers[i]);
        }
    }

    private static void namesEachTest(String page) throws IOException {
        try (DirectoryStream<Path> tests = Files.newDirectoryStream(TESTS, "*.java")) {
            for (Path test : tests) {
                CHECKS.holds(test + " is named", page.contains(test.getFileName() + "`"));
            }
        }
        Matcher named = Pattern.compile("`(src/[\\w/]+\\.java)`").matcher(page);
        while (named.find()) {
            CHECKS.holds(named.group(1) + " is there", Files.exists(Path.of(named.group(1))));
        }
    }
}
