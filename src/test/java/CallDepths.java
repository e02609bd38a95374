import java.io.File;
import java.io.PrintWriter;
import java.io.StringWriter;
import java.util.ArrayList;
import java.util.List;
import java.util.Map;
import java.util.Set;
import java.util.TreeMap;
import java.util.TreeSet;
import java.util.regex.Matcher;
import java.util.regex.Pattern;
import java.util.spi.ToolProvider;

/** Rule 11 of LANGUAGE.md: calls that are no recursion go at most eight deep; who calls whom is told by javap. */
public final class CallDepths {
    private static final int MOST_DEEP = 8;
    private static final Set<String> RECURSIONS =
        Set.of("GrazedNames$Plan.choose", "GrazedNames$Strays.assign", "GrazedNames$Kinds.askBody");
    private static final Pattern HEAD = Pattern.compile("^  \\S.*?([\\w$]+)\\([^)]*\\);$");
    private static final Pattern CALL = Pattern.compile("// Method (?:([\\w$/]+)\\.)?\"?([\\w<>]+)\"?:");
    private static final Checks CHECKS = new Checks();

    private final Map<String, Set<String>> called = new TreeMap<>();
    private final Set<String> open = new TreeSet<>();

    public static void main(String[] args) {
        if (ToolProvider.findFirst("javap").isEmpty()) {
            System.out.println("this machine has no javap");
            return;
        }
        CallDepths depths = new CallDepths();
        depths.read("GrazedNames");
        for (Class<?> inside : GrazedNames.class.getDeclaredClasses()) {
            depths.read(inside.getName());
        }
        CHECKS.holds("methods were read", depths.called.size() > 50);
        CHECKS.holds("a call was read", depths.called.get("GrazedNames.meadow").contains("GrazedNames$Text.read"));
        for (String method : depths.called.keySet()) {
            List<String> chain = depths.deepest(method);
            CHECKS.holds(chain + " is " + MOST_DEEP + " deep at most", chain.size() <= MOST_DEEP);
        }
        CHECKS.end();
    }

    /** A nested class calls its own methods without its name, and others with it. */
    private void read(String type) {
        String method = "";
        for (String line : disassembled(type).split("\n")) {
            Matcher head = HEAD.matcher(line);
            Matcher call = CALL.matcher(line);
            if (head.find()) {
                method = type + "." + (head.group(1).equals(type) ? "<init>" : head.group(1));
                called.put(method, new TreeSet<>());
            } else if (call.find() && called.containsKey(method)) {
                called.get(method).add((call.group(1) == null ? type : call.group(1)) + "." + call.group(2));
            }
        }
    }

    private static String disassembled(String type) {
        StringWriter text = new StringWriter();
        PrintWriter out = new PrintWriter(text);
        String classes = System.getProperty("java.class.path");
        ToolProvider javap = ToolProvider.findFirst("javap").orElseThrow();
        int ended = javap.run(out, out, "-c", "-p", classes + File.separator + type + ".class");
        CHECKS.due("javap of " + type, ended, 0);
        return text.toString().replace("\r", "");
    }

    /** The longest chain of calls from a method on, itself the first; a method that calls itself counts once. */
    private List<String> deepest(String method) {
        List<String> longest = List.of();
        open.add(method);
        for (String next : called.getOrDefault(method, Set.of())) {
            if (open.contains(next)) {
                boolean itself = next.equals(method) && RECURSIONS.contains(next);
                CHECKS.holds(method + " calls " + next + ": a recursion that is known", itself);
                continue;
            }
            List<String> chain = deepest(next);
            longest = chain.size() > longest.size() ? chain : longest;
        }
        open.remove(method);
        List<String> all = new ArrayList<>(List.of(method));
        all.addAll(longest);
        return all;
    }
}
