import java.nio.file.Files;
import java.nio.file.Path;
import java.util.List;
import java.util.regex.Matcher;
import java.util.regex.Pattern;

/** Those rules of LANGUAGE.md that can be seen in the source by its words alone. */
public final class RulesTest {
    private static final Due DUE = new Due("RulesTest");

    public static void main(String[] args) throws Exception {
        String source = Files.readString(Path.of("src/main/java/WreckSky.java"));
        String bare = source.replaceAll("(?s)/\\*.*?\\*/", "").replaceAll("//[^\n]*", "").replaceAll("\"[^\"\n]*\"", "\"\"");
        words(bare);
        imports(bare);
        calls(bare);
        lengths(bare);
        DUE.holds("texts and signs are of 1 to 127", source.chars().allMatch(c -> c >= 1 && c <= 127));
        DUE.end();
    }

    private static void words(String bare) {
        for (String word : List.of("throw", "throws", "try", "catch", "synchronized", "assert", "package", "protected", "native", "volatile",
                "transient", "Object", "HashMap", "equals", "hashCode", "toString", "Random", "Thread", "NaN", "System.currentTimeMillis")) {
            DUE.holds("no '" + word + "'", !Pattern.compile("\\b" + Pattern.quote(word) + "\\b").matcher(bare).find());
        }
        for (String sign : List.of("->", "::", "Exact(", "static {", "@")) {
            DUE.holds("no '" + sign + "'", !bare.contains(sign));
        }
    }

    private static void imports(String bare) {
        Matcher m = Pattern.compile("import ([\\w.]+);").matcher(bare);
        while (m.find()) {
            DUE.holds("import " + m.group(1), List.of("java.util.Arrays", "java.util.ArrayList", "java.util.List").contains(m.group(1)));
        }
    }

    private static void calls(String bare) {
        List<String> allowed = List.of("Math.min", "Math.max", "Math.abs", "Math.floorMod", "Math.floorDiv", "Integer.bitCount",
            "System.arraycopy", "Arrays.copyOf", "Arrays.copyOfRange", "Arrays.fill");
        Matcher m = Pattern.compile("\\b(Math|Integer|Long|System|Arrays|String|Character)\\.\\w+").matcher(bare);
        while (m.find()) {
            DUE.holds("library: " + m.group(), allowed.contains(m.group()));
        }
    }

    /** A method begins where a line of four or eight blanks ends with a ( .. ) and a {. */
    private static void lengths(String bare) {
        String[] lines = bare.split("\n");
        for (int i = 0; i < lines.length; i++) {
            Matcher m = Pattern.compile("^( {4}| {8})(?! )[\\w\\[\\] ]*?(\\w+)\\(([^)]*)\\) \\{$").matcher(lines[i]);
            if (!m.find()) continue;
            int end = i;
            while (end < lines.length && !lines[end].equals(m.group(1) + "}")) end++;
            DUE.holds(m.group(2) + " has " + (end - i + 1) + " lines", end - i + 1 <= 60);
            DUE.holds(m.group(2) + " takes at most seven", m.group(3).split(",").length <= 7);
        }
    }
}
