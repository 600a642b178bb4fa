import java.io.IOException;
import java.lang.reflect.Constructor;
import java.lang.reflect.Field;
import java.lang.reflect.Method;
import java.lang.reflect.Modifier;
import java.nio.file.Files;
import java.nio.file.Path;
import java.util.ArrayList;
import java.util.Arrays;
import java.util.List;
import java.util.TreeSet;
import java.util.regex.Matcher;
import java.util.regex.Pattern;

/** The public face, as the document writes it, and what of LANGUAGE.md a look at the source can check. */
public final class FaceTest {
    private static final Path SOURCE = Path.of("src/main/java/CoachesVote.java");
    private static final Path DOCUMENT = Path.of("../shared/DOC.md");
    private static final String[] RULED_OUT = {"->", "::", "finally", "synchronized", "assert", "catch", "try {", "Exact",
        "getMessage", "System.out", "System.nano", "System.current", "Thread", "Random", "import static", "hashCode",
        "toString", "package ", "double", "float", "Object", "var ", "record ", "new NullPointer", "new ArrayList"};

    public static void main(String[] args) throws IOException {
        String source = Files.readString(SOURCE);
        String code = source.replaceAll("(?s)/\\*.*?\\*/", "").replaceAll("//[^\n]*", "");
        face(Files.readString(DOCUMENT));
        classes(code);
        words(code);
        statics();
        methods(code);
        Check.finish("FaceTest");
    }

    private static void face(String document) {
        TreeSet<String> due = new TreeSet<>();
        Matcher lines = Pattern.compile("    public (\\w+) (\\w+)\\(([^)]*)\\)([^;]*);").matcher(document);
        while (lines.find()) {
            String types = lines.group(3).replaceAll("(\\w+) \\w+", "$1").replace(" ", "");
            due.add(lines.group(1) + " " + lines.group(2) + "(" + types + ")" + (lines.group(4).contains("throws") ? " throws" : ""));
        }
        Check.same("calls of the document", due.size(), 43);
        TreeSet<String> got = new TreeSet<>();
        TreeSet<String> hidden = new TreeSet<>();
        TreeSet<String> open = new TreeSet<>();
        for (Method m : CoachesVote.class.getDeclaredMethods()) {
            String types = String.join(",", Arrays.stream(m.getParameterTypes()).map(Class::getName).toList());
            if (Modifier.isPublic(m.getModifiers())) {
                got.add(m.getReturnType().getName() + " " + m.getName() + "(" + types + ")" + (m.getExceptionTypes().length > 0 ? " throws" : ""));
                open.add(m.getName());
            } else {
                Check.yes("private: " + m.getName(), Modifier.isPrivate(m.getModifiers()));
                hidden.add(m.getName());
            }
        }
        for (Class<?> c : CoachesVote.class.getDeclaredClasses()) {
            for (Method m : c.getDeclaredMethods()) {
                hidden.add(m.getName());
            }
        }
        Check.yes("the face is the document's: " + got, got.equals(due));
        hidden.retainAll(open);
        Check.yes("no other method bears a public name: " + hidden, hidden.isEmpty());
        Check.yes("final", Modifier.isFinal(CoachesVote.class.getModifiers()));
        for (Constructor<?> c : CoachesVote.class.getDeclaredConstructors()) {
            Check.yes("public constructor", Modifier.isPublic(c.getModifiers()) && c.getParameterCount() == 0);
        }
    }

    private static void classes(String code) {
        Class<?>[] inside = CoachesVote.class.getDeclaredClasses();
        Check.yes("at most twelve classes: " + inside.length, inside.length < 12);
        List<Class<?>> all = new ArrayList<>(List.of(inside));
        all.add(CoachesVote.class);
        for (Class<?> c : all) {
            int fields = 0;
            for (Field f : c.getDeclaredFields()) {
                fields += Modifier.isStatic(f.getModifiers()) ? 0 : 1;
                Check.yes("static ones are final: " + f, !Modifier.isStatic(f.getModifiers()) || Modifier.isFinal(f.getModifiers()));
            }
            Check.yes("at most twenty fields: " + c, fields <= 20);
            Check.yes("static: " + c, c == CoachesVote.class || Modifier.isStatic(c.getModifiers()));
        }
        Matcher imports = Pattern.compile("import ([\\w.]+);").matcher(code);
        while (imports.find()) {
            Check.yes("import " + imports.group(1), imports.group(1).equals("java.util.NoSuchElementException"));
        }
    }

    private static void words(String code) {
        for (String word : RULED_OUT) {
            Check.no("ruled out: " + word, code.contains(word));
        }
        Matcher thrown = Pattern.compile("throw [^;]*;").matcher(code);
        int number = 0;
        while (thrown.find()) {
            number++;
            Check.yes(thrown.group(), thrown.group().matches("throw new NoSuchElementException\\(\"[^\"]*\"\\);"));
        }
        Check.same("throws, one in each call that has one", number, 4);
        Check.yes("signs of the source", code.chars().allMatch(c -> c < 128));
        Check.no("loops without a bound", Pattern.compile("while \\(|for \\(;|do \\{").matcher(code).find());
        Matcher made = Pattern.compile("\n        +(?!for|if)[^\n]*[^l] new \\w+[\\[(]").matcher(code);
        while (made.find()) {
            Check.yes("made with the object alone: " + made.group(), made.group().matches("(?s).*(final |\\[i\\] = new Train|throw).*"));
        }
    }

    private static void statics() {
        for (Field f : CoachesVote.class.getDeclaredFields()) {
            boolean face = f.getName().equals("NONE");
            Check.yes("private: " + f.getName(), face ? Modifier.isPublic(f.getModifiers()) : Modifier.isPrivate(f.getModifiers()));
        }
    }

    private static void methods(String code) {
        Pattern head = Pattern.compile("^( {8}| {4})[\\w\\[\\] ]+\\(([^()]*)\\)[\\w ]*\\{$");
        String[] lines = code.split("\n");
        int number = 0;
        for (int i = 0; i < lines.length; i++) {
            Matcher m = head.matcher(lines[i]);
            if (m.matches() && !lines[i].trim().matches("(if|for|switch|else).*")) {
                number++;
                int end = i;
                while (!lines[end].equals(m.group(1) + "}")) {
                    end++;
                }
                Check.yes("short: " + lines[i], end - i <= 60);
                Check.yes("seven parameters: " + lines[i], m.group(2).split(",").length <= 7);
            }
        }
        Check.yes("methods found: " + number, number > 120);
    }
}
