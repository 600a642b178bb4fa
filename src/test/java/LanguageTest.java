import java.io.PrintWriter;
import java.io.StringWriter;
import java.net.URISyntaxException;
import java.nio.file.Path;
import java.util.ArrayList;
import java.util.List;
import java.util.Set;
import java.util.TreeMap;
import java.util.TreeSet;
import java.util.regex.Matcher;
import java.util.regex.Pattern;
import java.util.spi.ToolProvider;

/** What of LANGUAGE.md shows in the compiled class alone: which calls it makes, and how deep they go. */
public final class LanguageTest {
    /** All that the class uses of the list in rule 4, and what a throw and a constructor need. */
    private static final Set<String> LIBRARY = Set.of("java/lang/Math.max", "java/lang/Math.min", "java/lang/Math.abs",
        "java/lang/Integer.bitCount", "java/lang/System.arraycopy", "java/lang/Object.<init>",
        "java/util/NoSuchElementException.<init>");
    private static final Set<String> THROWING = Set.of("CoachesVote.halt", "CoachesVote.coach", "CoachesVote.passenger", "CoachesVote.row");
    private static final int DEEPEST = 8;

    private static final TreeMap<String, TreeSet<String>> CALLS = new TreeMap<>();
    private static final TreeSet<String> THROWS = new TreeSet<>();

    public static void main(String[] args) throws URISyntaxException {
        for (Class<?> c : classes()) {
            read(c.getName(), listing(c));
        }
        Check.yes("methods found: " + CALLS.size(), CALLS.size() > 120);
        library();
        Check.yes("rule 6, throws where the document has one: " + THROWS, THROWS.equals(new TreeSet<>(THROWING)));
        depth();
        Check.finish("LanguageTest");
    }

    private static List<Class<?>> classes() {
        List<Class<?>> all = new ArrayList<>(List.of(CoachesVote.class.getDeclaredClasses()));
        all.add(CoachesVote.class);
        return all;
    }

    private static String listing(Class<?> c) throws URISyntaxException {
        Path folder = Path.of(CoachesVote.class.getProtectionDomain().getCodeSource().getLocation().toURI());
        StringWriter text = new StringWriter();
        PrintWriter out = new PrintWriter(text);
        String file = folder.resolve(c.getName() + ".class").toString();
        Check.same("javap " + file, ToolProvider.findFirst("javap").orElseThrow().run(out, out, "-c", "-p", file), 0);
        return text.toString();
    }

    private static void read(String name, String listing) {
        Pattern head = Pattern.compile("^  (?! )[^=]*?([\\w$]+)\\([^)]*\\)[^;]*;$");
        Pattern call = Pattern.compile("invoke\\w+ .*// (?:Interface)?Method (\\S+?):");
        String method = "";
        for (String line : listing.split("\\R")) {
            Matcher h = head.matcher(line);
            Matcher c = call.matcher(line);
            if (h.matches()) {
                method = name + "." + (h.group(1).equals(name) ? "<init>" : h.group(1));
                CALLS.putIfAbsent(method, new TreeSet<>());
            } else if (c.find()) {
                String target = c.group(1).replace("\"", "");
                CALLS.get(method).add(target.contains(".") ? target : name + "." + target);
            } else if (line.endsWith(": athrow")) {
                THROWS.add(method);
            }
            Check.no("rule 2, a lambda or a text joined by +: " + method, line.contains("invokedynamic"));
            Check.no("rule 6, something is caught: " + method, line.contains("Exception table:"));
        }
    }

    private static void library() {
        for (String method : CALLS.keySet()) {
            for (String target : CALLS.get(method)) {
                Check.yes("rule 4: " + method + " calls " + target, CALLS.containsKey(target) || LIBRARY.contains(target));
            }
        }
    }

    /** Methods that call one another in a ring count once each, so the reader of rules is looked at too. */
    private static void depth() {
        for (String method : CALLS.keySet()) {
            List<String> deepest = deepest(method, new ArrayList<>());
            Check.yes("rule 11, calls go " + deepest.size() + " deep: " + deepest, deepest.size() <= DEEPEST);
        }
    }

    private static List<String> deepest(String method, List<String> open) {
        List<String> best = List.of();
        if (open.contains(method)) {
            return best;
        }
        open.add(method);
        for (String target : CALLS.getOrDefault(method, new TreeSet<>())) {
            List<String> next = deepest(target, open);
            best = next.size() > best.size() ? next : best;
        }
        open.remove(open.size() - 1);
        List<String> all = new ArrayList<>(List.of(method));
        all.addAll(best);
        return all;
    }
}
