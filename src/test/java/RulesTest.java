import java.nio.file.Files;
import java.nio.file.Path;
import java.util.Set;
import java.util.TreeSet;
import java.util.regex.Matcher;
import java.util.regex.Pattern;

/** What of LANGUAGE.md can be told from the bare text of the class. It runs in the project's folder. */
public final class RulesTest {
    private static final String[] NEVER = {"\\bthrow\\b", "\\bthrows\\b", "\\btry\\b", "\\bcatch\\b", "\\bfinally\\b",
        "\\bsynchronized\\b", "\\bvolatile\\b", "\\bassert\\b", "\\bimport\\b", "\\bpackage\\b", "->", "::", "\\bstatic\\s*\\{",
        "\\bnative\\b", "\\binterface\\b.*@", "@", "\\bvar\\b", "\\bequals\\b", "\\bhashCode\\b", "\\btoString\\b"};
    private static final Set<String> LIBRARY = Set.of("Math.floorMod", "Integer.bitCount", "System.arraycopy");

    public static void main(String[] args) throws Exception {
        String source = Files.readString(Path.of("src/main/java/HoundLicence.java"));
        String code = bare(source);
        for (String never : NEVER) {
            Due.that("none of " + never, !Pattern.compile(never).matcher(code).find());
        }
        Due.that("plain signs alone", source.chars().allMatch(c -> c < 127));
        library(code);
        lengths(code);
        Due.end();
    }

    /** Without comments; signs and texts in quotes are emptied. */
    private static String bare(String source) {
        return source.replaceAll("(?s)/\\*.*?\\*/", "").replaceAll("//[^\n]*", "")
            .replaceAll("\"(\\\\.|[^\"\\\\])*\"", "\"\"").replaceAll("'(\\\\.|[^'\\\\])'", "' '");
    }

    private static void library(String code) {
        Set<String> used = new TreeSet<>();
        Matcher call = Pattern.compile("\\b(Math|Integer|Long|System|Arrays|String|List|ArrayList)\\.\\w+").matcher(code);
        while (call.find()) {
            used.add(call.group());
        }
        Due.that("of the library only " + LIBRARY + ", not " + used, LIBRARY.containsAll(used));
    }

    private static void lengths(String code) {
        int depth = 0;
        int[] begun = new int[50];
        String[] lines = code.split("\n");
        for (int i = 0; i < lines.length; i++) {
            for (char c : lines[i].toCharArray()) {
                if (c == '{') {
                    begun[depth++] = i;
                }
                if (c == '}') {
                    depth--;
                    boolean method = lines[begun[depth]].contains(")") && depth > 0;
                    Due.that("short: " + lines[begun[depth]], !method || i - begun[depth] <= 60);
                }
            }
        }
        Due.is("braces that are open at the end", depth, 0);
    }
}
