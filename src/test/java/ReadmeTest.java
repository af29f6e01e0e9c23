import java.io.IOException;
import java.lang.reflect.Method;
import java.lang.reflect.Modifier;
import java.nio.file.Files;
import java.nio.file.Path;
import java.util.ArrayList;
import java.util.HashMap;
import java.util.List;
import java.util.Map;
import java.util.Set;
import java.util.TreeSet;
import java.util.regex.Matcher;
import java.util.regex.Pattern;

/** What README.md says: its examples, the numbers of the constants, its commands, its list of tests. */
public final class ReadmeTest {
    private static final Pattern EXAMPLES = Pattern.compile("(?s)```java\n(.*?)```");
    private static final Pattern MADE = Pattern.compile("HoundLicence (\\w+) = new HoundLicence\\(\\);");
    private static final Pattern WRITTEN = Pattern.compile(
        "for \\(char letter : \"(.*)\"\\.toCharArray\\(\\)\\) (\\w+)\\.write\\(letter\\);");
    private static final Pattern CALL = Pattern.compile("(\\w+)\\.(\\w+)\\((.*)\\); +// (-?\\d+)(: .*)?");
    private static final Pattern CONSTANT = Pattern.compile("`([A-Z]+)` \\((-\\d)\\)");
    private static final Pattern TEST = Pattern.compile("`(\\w+Test)`");

    private static final Map<String, HoundLicence> OBJECTS = new HashMap<>();
    private static final Set<String> SHOWN = new TreeSet<>();

    public static void main(String[] args) throws Exception {
        String page = Files.readString(Path.of("README.md"));
        Matcher examples = EXAMPLES.matcher(page);
        while (examples.find()) {
            for (String line : examples.group(1).split("\n")) {
                example(line);
            }
        }
        eachCallShown();
        constants(page);
        for (String line : page.split("\n")) {
            if (line.startsWith("    ")) {
                command(line.strip());
            }
        }
        tests(page);
        Due.end();
    }

    private static void example(String line) throws ReflectiveOperationException {
        Matcher made = MADE.matcher(line);
        Matcher written = WRITTEN.matcher(line);
        Matcher call = CALL.matcher(line);
        if (made.matches()) {
            OBJECTS.put(made.group(1), new HoundLicence());
        } else if (written.matches()) {
            SHOWN.add("write");
            Due.write(OBJECTS.get(written.group(2)), written.group(1));
        } else if (call.matches()) {
            long due = Long.parseLong(call.group(4));
            Due.is(line, answer(OBJECTS.get(call.group(1)), call.group(2), call.group(3)), due);
            told(call.group(5), due);
        } else {
            Due.that("an example that can be read: " + line, false);
        }
    }

    private static long answer(HoundLicence x, String name, String told) throws ReflectiveOperationException {
        SHOWN.add(name);
        String[] words = told.isEmpty() ? new String[0] : told.split(", ");
        for (Method method : HoundLicence.class.getMethods()) {
            Class<?>[] types = method.getParameterTypes();
            if (method.getName().equals(name) && types.length == words.length) {
                Object[] values = new Object[words.length];
                for (int i = 0; i < words.length; i++) {
                    values[i] = value(types[i], words[i]);
                }
                return ((Number) method.invoke(x, values)).longValue();
            }
        }
        throw new IllegalArgumentException("no such call: " + name + "(" + told + ")");
    }

    private static Object value(Class<?> type, String word) {
        if (type == boolean.class) {
            return Boolean.valueOf(word);
        }
        if (type == long.class) {
            return Long.valueOf(word);
        }
        return Integer.valueOf(word);
    }

    /** A constant that is named behind an answer is that answer. */
    private static void told(String words, long due) throws ReflectiveOperationException {
        for (String name : new String[] {"UNKNOWN", "BAD", "LATE", "FULL", "NONE"}) {
            boolean named = words != null && words.contains(name);
            Due.that(name + " behind " + due, named == (due == HoundLicence.class.getField(name).getInt(null)));
        }
    }

    private static void eachCallShown() {
        for (Method method : HoundLicence.class.getDeclaredMethods()) {
            if (Modifier.isPublic(method.getModifiers())) {
                Due.that("an example of " + method.getName(), SHOWN.contains(method.getName()));
            }
        }
    }

    private static void constants(String page) throws ReflectiveOperationException {
        Matcher constant = CONSTANT.matcher(page);
        int found = 0;
        while (constant.find()) {
            found++;
            Due.is(constant.group(1), HoundLicence.class.getField(constant.group(1)).getInt(null),
                Integer.parseInt(constant.group(2)));
        }
        Due.is("constants", found, 5);
    }

    /** .ci/run runs this test, so it is only looked at; what the shared tests are is not the project's own. */
    private static void command(String line) throws IOException, InterruptedException {
        if (line.equals("bash .ci/run")) {
            Due.that(".ci/run can be run", Files.isExecutable(Path.of(".ci/run")));
            return;
        }
        if (line.contains("HoundLicenceRuns") && !Files.exists(Path.of("../shared/tests/HoundLicenceRuns.java"))) {
            return;
        }
        Process process = new ProcessBuilder("bash", "-c", line).redirectErrorStream(true).start();
        String out = new String(process.getInputStream().readAllBytes());
        Due.that(line + "\n" + out, process.waitFor() == 0);
    }

    private static void tests(String page) throws IOException {
        Set<String> told = new TreeSet<>();
        Matcher test = TEST.matcher(page);
        while (test.find()) {
            told.add(test.group(1));
        }
        List<String> there = new ArrayList<>();
        try (var files = Files.list(Path.of("src/test/java"))) {
            files.forEach(file -> there.add(file.getFileName().toString().replace(".java", "")));
        }
        Due.same("tests", told.toString(), new TreeSet<>(there).toString());
    }
}
