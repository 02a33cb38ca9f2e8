import java.io.IOException;
import java.lang.reflect.Field;
import java.lang.reflect.Method;
import java.lang.reflect.Modifier;
import java.nio.file.Files;
import java.nio.file.Path;
import java.util.ArrayList;
import java.util.List;
import java.util.Map;
import java.util.Set;
import java.util.TreeMap;
import java.util.TreeSet;
import java.util.regex.Matcher;
import java.util.regex.Pattern;

/** What of LANGUAGE.md can be seen from the text and the face of the class. */
public final class RulesTest {
    private static final Checks checks = new Checks("RulesTest");
    private static final Set<String> FACE = new TreeSet<>(List.of("type(1)", "clear(0)", "floor(0)", "cell(1)",
        "powers(2)", "moves(1)", "steps(0)", "rotates(1)", "scans(0)", "carries(2)", "goes(1)", "undo(0)", "robot(1)",
        "knows(1)", "home(1)", "target(1)", "place(1)", "lane(2)", "room(1)", "reach(1)", "when(0)", "keep(1)",
        "back(1)", "count(1)"));

    /** Of what LANGUAGE.md allows, all that the class uses. */
    private static final Set<String> LIBRARY = Set.of("Math.min", "Long.bitCount", "System.arraycopy");

    public static void main(String[] args) throws IOException {
        constants();
        face();
        classesInside();
        String text = Files.readString(Path.of("src/main/java/SweptFloors.java"));
        String code = text.replaceAll("(?s)/\\*.*?\\*/", "").replaceAll("//[^\n]*", "");
        words(code);
        library(code);
        loops(code);
        lengths(text);
        depths(code);
        checks.end();
    }

    private static void constants() {
        checks.due("BAD", SweptFloors.BAD, -1);
        checks.due("STATE", SweptFloors.STATE, -2);
        checks.due("FULL", SweptFloors.FULL, -3);
        checks.due("NONE", SweptFloors.NONE, -9);
    }

    private static void face() {
        Set<String> seen = new TreeSet<>();
        Set<String> names = new TreeSet<>();
        for (Method m : SweptFloors.class.getDeclaredMethods()) {
            if (Modifier.isPublic(m.getModifiers())) {
                seen.add(m.getName() + "(" + m.getParameterCount() + ")");
                names.add(m.getName());
                checks.holds(m.getName() + " answers an int", m.getReturnType() == int.class);
            }
        }
        checks.holds("the face is " + seen, seen.equals(FACE));
        for (Method m : SweptFloors.class.getDeclaredMethods()) {
            if (!Modifier.isPublic(m.getModifiers())) {
                checks.holds(m.getName() + " is private", Modifier.isPrivate(m.getModifiers()));
                checks.holds(m.getName() + " bears no public name", !names.contains(m.getName()));
            }
        }
        Set<String> fields = new TreeSet<>();
        for (Field f : SweptFloors.class.getDeclaredFields()) {
            if (!Modifier.isPrivate(f.getModifiers())) {
                fields.add(f.getName());
            }
            checks.holds(f.getName() + " is final, if static",
                !Modifier.isStatic(f.getModifiers()) || Modifier.isFinal(f.getModifiers()));
        }
        checks.holds("the constants are " + fields, fields.equals(Set.of("BAD", "STATE", "FULL", "NONE")));
        checks.holds("the class is final", Modifier.isFinal(SweptFloors.class.getModifiers()));
        checks.due("constructors", SweptFloors.class.getDeclaredConstructors().length, 1);
    }

    private static void classesInside() {
        Class<?>[] inside = SweptFloors.class.getDeclaredClasses();
        checks.holds("at most twelve classes", inside.length < 12);
        Set<String> names = new TreeSet<>();
        for (Method m : SweptFloors.class.getDeclaredMethods()) {
            if (Modifier.isPublic(m.getModifiers())) {
                names.add(m.getName());
            }
        }
        for (Class<?> c : inside) {
            checks.holds(c.getName() + " is static", Modifier.isStatic(c.getModifiers()));
            checks.holds(c.getName() + " has few fields", c.getDeclaredFields().length <= 20);
            for (Method m : c.getDeclaredMethods()) {
                checks.holds(m.getName() + " bears no public name", !names.contains(m.getName()));
                checks.holds(m.getName() + " takes at most seven", m.getParameterCount() <= 7);
            }
        }
    }

    private static void words(String code) {
        String[] forbidden = {"\\bthrow\\b", "\\bthrows\\b", "\\btry\\b", "\\bcatch\\b", "\\bsynchronized\\b",
            "\\bassert\\b", "\\bimport\\b", "\\bpackage\\b", "->", "::", "\\bSystem\\.(?!arraycopy)", "\\bThread\\b",
            "\\bRandom\\b", "Exact\\b", "\\bstatic\\s*\\{", "\\bprotected\\b", "\\bObject\\b", "\\bdouble\\b",
            "\\bfloat\\b", "\\bwhile\\s*\\(true\\)", "for\\s*\\(;;"};
        for (String word : forbidden) {
            checks.holds("no " + word, !Pattern.compile(word).matcher(code).find());
        }
        checks.holds("signs 1 to 127 alone", code.chars().allMatch(c -> c < 128));
        // the only divisions would be by names: none stand here
        checks.holds("no division", !Pattern.compile("[\\w)]\\s*[/%]\\s*[\\w(]").matcher(code).find());
        Matcher objects = Pattern.compile("\\bnew\\s+(\\w+)").matcher(code);
        int made = 0;
        while (objects.find()) {
            made++;
        }
        checks.holds("few things are made", made <= 20);
    }

    private static void library(String code) {
        Matcher used = Pattern.compile("\\b[A-Z][A-Za-z]+\\.[a-z]\\w*").matcher(code);
        while (used.find()) {
            checks.holds(used.group() + " is of the library that is allowed", LIBRARY.contains(used.group()));
        }
    }

    private static void loops(String code) {
        Matcher heads = Pattern.compile("\\b(for|while|do)\\b.*").matcher(code);
        while (heads.find()) {
            checks.holds("counts up to a bound: " + heads.group(), heads.group().matches(
                "for \\(int (\\w+) = 0; \\1 <=? [\\w.]+( \\* \\w+)?( && .*)?; \\1\\+\\+\\) \\{"));
        }
    }

    private static void lengths(String text) {
        String[] lines = text.split("\n");
        List<String> open = new ArrayList<>();
        int start = 0;
        for (int i = 0; i < lines.length; i++) {
            checks.holds("line " + (i + 1) + " is short", lines[i].length() <= 120);
            if (lines[i].matches(" {4}( {4})?(public|private).*\\) \\{")) {
                start = i;
                open.add(lines[i].trim());
            }
            if (lines[i].matches(" {4}( {4})?\\}")) {
                checks.holds("short: " + lines[start].trim(), i - start <= 60);
            }
            if (lines[i].matches(" {4}private static final class.*")) {
                start = i + 1;
            }
            if (lines[i].equals("    }")) {
                start = i;
            }
        }
        checks.holds("methods were seen", open.size() > 50);
    }

    /** Follows calls by their names alone, which is right as long as each name stands for one method. */
    private static void depths(String code) {
        Map<String, String> bodies = new TreeMap<>();
        Matcher heads = Pattern.compile("(?m)^ {4,8}(?:public|private)[\\w\\s\\[\\]]*?(\\w+)\\([^)]*\\) \\{$").matcher(code);
        while (heads.find()) {
            String indent = heads.group().replaceAll("(?s)^( *).*", "$1");
            int end = code.indexOf("\n" + indent + "}", heads.end());
            checks.holds("one method alone is named " + heads.group(1),
                bodies.put(heads.group(1), code.substring(heads.end(), end)) == null);
        }
        checks.holds("all methods were seen", bodies.size() > 60);
        for (String name : bodies.keySet()) {
            int depth = depth(name, bodies, 0);
            checks.holds(name + " goes " + depth + " deep", depth <= 8);
        }
    }

    private static int depth(String name, Map<String, String> bodies, int above) {
        if (above > 20) {
            return 99;
        }
        int most = 0;
        Matcher calls = Pattern.compile("\\b(\\w+)\\(").matcher(bodies.get(name));
        while (calls.find()) {
            int below = bodies.containsKey(calls.group(1)) ? depth(calls.group(1), bodies, above + 1)
                : Character.isLowerCase(calls.group(1).charAt(0)) && !calls.group(1).matches("if|for|switch|while") ? 1
                : 0;
            most = Math.max(most, below);
        }
        return 1 + most;
    }
}
