import java.lang.reflect.Field;
import java.lang.reflect.Method;
import java.lang.reflect.Modifier;
import java.nio.file.Files;
import java.nio.file.Path;
import java.util.ArrayList;
import java.util.HashMap;
import java.util.HashSet;
import java.util.List;
import java.util.Map;
import java.util.Set;
import java.util.regex.Matcher;
import java.util.regex.Pattern;

/** Those rules of LANGUAGE.md that can be seen in the source by its words alone. */
public final class RulesTest {
    private static final Due DUE = new Due("RulesTest");

    public static void main(String[] args) throws Exception {
        String source = Files.readString(Path.of("src/main/java/WreckSky.java"));
        String bare = source.replaceAll("(?s)/\\*.*?\\*/", "").replaceAll("//[^\n]*", "").replaceAll("\"[^\"\n]*\"", "\"\"");
        words(bare);
        imports(bare);
        calls(bare);
        lengths(bare);
        members(WreckSky.class);
        depth(bare);
        DUE.holds("texts and signs are of 1 to 127", source.chars().allMatch(c -> c >= 1 && c <= 127));
        DUE.end();
    }

    private static void words(String bare) {
        for (String word : List.of("throw", "throws", "try", "catch", "synchronized", "assert", "package", "protected", "native", "volatile",
                "transient", "Object", "HashMap", "equals", "hashCode", "toString", "Random", "Thread", "NaN", "System.currentTimeMillis")) {
            DUE.holds("no '" + word + "'", !Pattern.compile("\\b" + Pattern.quote(word) + "\\b").matcher(bare).find());
        }
        for (String sign : List.of("->", "::", "Exact(", "static {", "@")) {
            DUE.holds("no '" + sign + "'", !bare.contains(sign));
        }
    }

    private static void imports(String bare) {
        Matcher m = Pattern.compile("import ([\\w.]+);").matcher(bare);
        while (m.find()) {
            DUE.holds("import " + m.group(1), List.of("java.util.Arrays", "java.util.ArrayList", "java.util.List").contains(m.group(1)));
        }
    }

    private static void calls(String bare) {
        List<String> allowed = List.of("Math.min", "Math.max", "Math.abs", "Math.floorMod", "Math.floorDiv", "Integer.bitCount",
            "System.arraycopy", "Arrays.copyOf", "Arrays.copyOfRange", "Arrays.fill");
        Matcher m = Pattern.compile("\\b(Math|Integer|Long|System|Arrays|String|Character)\\.\\w+").matcher(bare);
        while (m.find()) {
            DUE.holds("library: " + m.group(), allowed.contains(m.group()));
        }
    }

    /** A method begins where a line of four or eight blanks ends with a ( .. ) and a {. */
    private static void lengths(String bare) {
        String[] lines = bare.split("\n");
        for (int i = 0; i < lines.length; i++) {
            Matcher m = Pattern.compile("^( {4}| {8})(?! )[\\w\\[\\] ]*?(\\w+)\\(([^)]*)\\) \\{$").matcher(lines[i]);
            if (!m.find()) continue;
            int end = i;
            while (end < lines.length && !lines[end].equals(m.group(1) + "}")) end++;
            DUE.holds(m.group(2) + " has " + (end - i + 1) + " lines", end - i + 1 <= 60);
            DUE.holds(m.group(2) + " takes at most seven", m.group(3).split(",").length <= 7);
        }
    }

    /** Rules 1, 2, 5 and 11: names, static classes, final static fields, and how many there are. */
    private static void members(Class<?> face) {
        List<Class<?>> all = new ArrayList<>(List.of(face.getDeclaredClasses()));
        for (Class<?> inside : all) {
            DUE.holds(inside + " is static", Modifier.isStatic(inside.getModifiers()));
            DUE.is(inside + " has no classes inside", inside.getDeclaredClasses().length, 0);
        }
        all.add(face);
        DUE.holds(all.size() + " classes are at most twelve", all.size() <= 12);
        Set<String> open = new HashSet<>();
        for (Method m : face.getDeclaredMethods()) {
            if (Modifier.isPublic(m.getModifiers())) open.add(m.getName());
        }
        for (Class<?> c : all) {
            int fields = 0;
            for (Field f : c.getDeclaredFields()) {
                boolean isStatic = Modifier.isStatic(f.getModifiers());
                DUE.holds(f + " is final, if it is static", !isStatic || Modifier.isFinal(f.getModifiers()));
                fields += isStatic ? 0 : 1;
            }
            DUE.holds(c + " has " + fields + " fields", fields <= 20);
            for (Method m : c.getDeclaredMethods()) {
                boolean hidden = Modifier.isPrivate(m.getModifiers());
                DUE.holds(m + " has a name of its own", !hidden || !open.contains(m.getName()));
            }
        }
    }

    /** Rule 11: calls that are no recursion go at most eight deep, the library's own counted too. */
    private static void depth(String bare) {
        Map<String, Set<String>> calls = new HashMap<>();
        String[] lines = bare.split("\n");
        String inside = "";
        for (int i = 0; i < lines.length; i++) {
            Matcher c = Pattern.compile("\\bclass (\\w+)").matcher(lines[i]);
            if (c.find()) inside = c.group(1);
            Matcher m = Pattern.compile("^( {4}| {8})(?! )[\\w\\[\\] ]*?(\\w+)\\([^)]*\\) \\{$").matcher(lines[i]);
            if (!m.find()) continue;
            Set<String> called = calls.computeIfAbsent(inside + "." + m.group(2), k -> new HashSet<>());
            for (int j = i + 1; j < lines.length && !lines[j].equals(m.group(1) + "}"); j++) {
                Matcher call = Pattern.compile("\\b(\\w+)\\(").matcher(lines[j]);
                while (call.find()) called.add(call.group(1));
            }
        }
        DUE.holds("the methods are found", calls.size() > 100);
        for (String method : calls.keySet()) {
            int deep = deepest(method, calls, new HashSet<>());
            DUE.holds(method + " goes " + deep + " deep", deep <= 8);
        }
    }

    /** A name stands for each method that bears it, so this is never less than what is. */
    private static int deepest(String method, Map<String, Set<String>> calls, Set<String> open) {
        if (!open.add(method)) return 0;
        int most = 0;
        for (String name : calls.get(method)) {
            boolean own = false;
            for (String other : calls.keySet()) {
                if (!other.endsWith("." + name)) continue;
                own = true;
                most = Math.max(most, deepest(other, calls, open));
            }
            boolean library = !own && !List.of("if", "for", "while", "switch").contains(name);
            most = library ? Math.max(most, 1) : most;
        }
        open.remove(method);
        return 1 + most;
    }
}
