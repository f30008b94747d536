import java.io.IOException;
import java.lang.reflect.Constructor;
import java.lang.reflect.Field;
import java.lang.reflect.Method;
import java.lang.reflect.Modifier;
import java.nio.file.Files;
import java.nio.file.Path;
import java.util.ArrayList;
import java.util.List;
import java.util.Map;
import java.util.Set;
import java.util.TreeMap;
import java.util.TreeSet;
import java.util.regex.Matcher;
import java.util.regex.Pattern;

/** The face of the document, and those rules of ../shared/LANGUAGE.md that can be read off the program. */
final class LanguageTest {
    private static final String[] RULED_OUT = {
        "\\b(throw|throws|try|catch|finally|synchronized|assert|volatile|transient|native)\\b",
        "->", "::", "Exact\\s*\\(", "\\bstatic\\s*\\{", "^\\s*package\\b", "\\bimport\\s+(?!java\\.util\\.Arrays;)",
        "\\bSystem\\.(?!arraycopy)", "\\bMath\\.(?!max|min|abs)", "\\b(HashMap|Random|Thread|Object|String\\.format)\\b",
        "\\b(hashCode|toString|equals)\\s*\\(", "\\[\\s*\\]\\s*\\[\\s*\\]", "[^\\x00-\\x7f]", "\"\\s*\\+|\\+\\s*\"", "@SuppressWarnings",
    };

    private static final Told told = new Told();

    private static String signature(Method m) {
        StringBuilder s = new StringBuilder(m.getReturnType() + " " + m.getName() + "(");
        for (Class<?> kind : m.getParameterTypes()) {
            s.append(kind).append(",");
        }
        return s.append(")").toString();
    }

    private static Set<String> faceOfDocument() throws IOException {
        Set<String> face = new TreeSet<>();
        Matcher m = Pattern.compile("    public (\\w+) (\\w+)\\(([^)]*)\\);").matcher(Files.readString(Path.of("../shared/DOC.md")));
        while (m.find()) {
            StringBuilder s = new StringBuilder(m.group(1) + " " + m.group(2) + "(");
            for (String parameter : m.group(3).split(", ")) {
                s.append(parameter.isEmpty() ? "" : parameter.split(" ")[0] + ",");
            }
            face.add(s.append(")").toString());
        }
        return face;
    }

    private static void face() throws IOException {
        Set<String> mine = new TreeSet<>();
        Set<String> names = new TreeSet<>();
        for (Method m : TableNine.class.getDeclaredMethods()) {
            if (Modifier.isPublic(m.getModifiers())) {
                mine.add(signature(m));
                names.add(m.getName());
            } else {
                told.due(m + " is private", Modifier.isPrivate(m.getModifiers()) ? 1 : 0, 1);
            }
        }
        Set<String> due = faceOfDocument();
        told.due("methods of the document", due.size(), 65);
        told.due("face " + mine, mine.equals(due) ? 1 : 0, 1);
        for (Field f : TableNine.class.getDeclaredFields()) {
            boolean shown = Modifier.isPublic(f.getModifiers());
            told.due(f + " is as the document has it", shown == f.getName().equals("NONE") && (shown || Modifier.isPrivate(f.getModifiers())) ? 1 : 0, 1);
        }
        for (Constructor<?> c : TableNine.class.getDeclaredConstructors()) {
            told.due(c + " is the document's", Modifier.isPublic(c.getModifiers()) && c.getParameterCount() == 0 ? 1 : 0, 1);
        }
        inside(names);
    }

    private static void inside(Set<String> names) {
        List<Class<?>> all = new ArrayList<>(List.of(TableNine.class.getDeclaredClasses()));
        told.due("at most twelve classes", all.size() < 12 ? 1 : 0, 1);
        all.add(TableNine.class);
        for (Class<?> c : all) {
            boolean nested = c != TableNine.class;
            told.due(c + " is static and not public", !nested || Modifier.isStatic(c.getModifiers()) && !Modifier.isPublic(c.getModifiers()) ? 1 : 0, 1);
            int fields = 0;
            for (Field f : c.getDeclaredFields()) {
                boolean still = Modifier.isStatic(f.getModifiers());
                told.due(f + " is final if static", !still || Modifier.isFinal(f.getModifiers()) ? 1 : 0, 1);
                fields += still ? 0 : 1;
            }
            told.due(c + " has some twenty fields", fields <= 20 ? 1 : 0, 1);
            for (Method m : c.getDeclaredMethods()) {
                told.due(m + " has at most seven parameters", m.getParameterCount() <= 7 ? 1 : 0, 1);
                told.due(m + " has a name of its own", !Modifier.isPublic(m.getModifiers()) && names.contains(m.getName()) ? 1 : 0, 0);
            }
        }
    }

    /** The program without comments, and with nothing in its texts. */
    private static String bare(String source) {
        return source.replaceAll("(?s)/\\*.*?\\*/", "").replaceAll("//[^\n]*", "").replaceAll("\"[^\"\n]*\"", "\"\"");
    }

    private static void words(String source) {
        for (String rule : RULED_OUT) {
            Matcher m = Pattern.compile(rule, Pattern.MULTILINE).matcher(source);
            while (m.find()) {
                told.due("'" + m.group() + "' stands in the program", 1, 0);
            }
        }
    }

    private static void lengths(String source) {
        String[] lines = source.split("\n");
        int start = 0;
        for (int i = 0; i < lines.length; i++) {
            if (lines[i].matches(" {4,8}[\\w\\[\\] ]+\\(.*\\) \\{")) {
                start = i;
            } else if (lines[i].matches(" {4,8}\\}")) {
                told.due("lines of the method that ends on " + (i + 1), i - start < 60 || start == 0 ? 1 : 0, 1);
                start = 0;
            }
        }
    }

    /** By its name, what each method of the program (or of several with one name) calls. */
    private static Map<String, Set<String>> calls(String source) {
        Map<String, Set<String>> calls = new TreeMap<>();
        String now = "";
        String end = "";
        for (String line : source.split("\n")) {
            Matcher head = Pattern.compile("^ {4,8}[\\w\\[\\] ]*?(\\w+)\\([^()]*\\) \\{$").matcher(line);
            if (head.find() && !head.group(1).matches("if|for|while|switch")) {
                now = head.group(1);
                end = line.replaceAll("\\S.*", "") + "}";
                calls.putIfAbsent(now, new TreeSet<>());
            } else if (line.equals(end)) {
                now = "";
            } else if (!now.isEmpty()) {
                Matcher call = Pattern.compile("(\\w+)\\(").matcher(line);
                while (call.find()) {
                    calls.get(now).add(call.group(1));
                }
            }
        }
        return calls;
    }

    private static int depth(Map<String, Set<String>> calls, String name, int level) {
        int deepest = level;
        for (String called : calls.get(name)) {
            // a name that calls itself is another class's method of that name; there is no recursion
            if (calls.containsKey(called) && !called.equals(name) && level < 20) {
                deepest = Math.max(deepest, depth(calls, called, level + 1));
            }
        }
        return deepest;
    }

    private static void depths(String source) {
        Map<String, Set<String>> calls = calls(source);
        told.due("methods are found", calls.size() > 120 ? 1 : 0, 1);
        for (String name : calls.keySet()) {
            int depth = depth(calls, name, 1);
            told.due(name + " goes " + depth + " calls deep, so at most eight", depth <= 8 ? 1 : 0, 1);
        }
    }

    public static void main(String[] args) throws IOException {
        face();
        String source = Files.readString(Path.of("src/main/java/TableNine.java"));
        words(bare(source));
        lengths(source);
        depths(bare(source));
        told.close("LanguageTest");
    }
}
