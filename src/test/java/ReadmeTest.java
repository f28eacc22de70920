import java.io.IOException;
import java.lang.reflect.Method;
import java.nio.file.Files;
import java.nio.file.Path;
import java.util.Arrays;
import java.util.Map;
import java.util.Set;
import java.util.TreeMap;
import java.util.TreeSet;
import java.util.regex.Matcher;
import java.util.regex.Pattern;
import java.util.stream.Collectors;
import java.util.stream.Stream;

/** What README.md says is so: the answers in its examples, the classes it names, the tests it names. */
public final class ReadmeTest {
    private static final Pattern EXAMPLE = Pattern.compile("(?s)```java\\n(.*?)```");
    private static final Pattern CALL =
        Pattern.compile("(?:(int|long) (\\w+) = )?valley\\.(\\w+)\\((.*)\\); *// (-?\\d+)(?::? .*)?");
    private static final String NEW_VALLEY = "BreadOvens valley = new BreadOvens();";

    private final Check check = new Check();
    private final Map<String, Long> names = new TreeMap<>();
    private BreadOvens valley = new BreadOvens();

    public static void main(String[] args) throws IOException {
        String readme = Files.readString(Path.of("README.md"));
        ReadmeTest test = new ReadmeTest();
        test.play(chapter(readme, "Use"));
        test.compareClasses(chapter(readme, "How it is built"));
        test.compareTests(chapter(readme, "Tests"));
        test.check.finish();
    }

    private static String chapter(String readme, String title) {
        int start = readme.indexOf("\n## " + title + "\n");
        if (start < 0) {
            throw new IllegalStateException("README.md has no chapter " + title);
        }
        int end = readme.indexOf("\n## ", start + 1);
        return end < 0 ? readme.substring(start) : readme.substring(start, end);
    }

    /** The examples go on with the valley of the one before, until one of them makes a new one. */
    private void play(String chapter) {
        Matcher example = EXAMPLE.matcher(chapter);
        while (example.find()) {
            example.group(1).lines().forEach(this::playLine);
        }
    }

    private void playLine(String line) {
        if (line.equals(NEW_VALLEY)) {
            valley = new BreadOvens();
            names.clear();
            return;
        }
        Matcher call = CALL.matcher(line);
        if (!call.matches()) {
            check.due("README.md: no call with its answer: " + line, 1, 0);
            return;
        }
        long[] numbers = Stream.of(call.group(4).split(", ")).filter(word -> !word.isEmpty())
            .mapToLong(this::numberOf).toArray();
        Call real = Call.of(line, call.group(3), numbers);
        check.due("README.md: " + line, real.on(valley), Long.parseLong(call.group(5)));
        if (call.group(2) != null) {
            check.due("README.md: the type in " + line, fits(real.method(), call.group(1)) ? 1 : 0, 1);
            names.put(call.group(2), Long.parseLong(call.group(5)));
        }
    }

    private long numberOf(String word) {
        return names.containsKey(word) ? names.get(word) : Long.parseLong(word);
    }

    private static boolean fits(Method method, String type) {
        return method.getReturnType().getName().equals(type);
    }

    private void compareClasses(String chapter) {
        Set<String> real = Arrays.stream(BreadOvens.class.getDeclaredClasses())
            .map(Class::getSimpleName).collect(Collectors.toSet());
        compare("class", found(chapter, "(?m)^\\| `(\\w+)`"), real);
    }

    private void compareTests(String chapter) throws IOException {
        try (Stream<Path> files = Files.list(Path.of("src/test/java"))) {
            Set<String> real = files.map(file -> file.getFileName().toString())
                .filter(name -> name.endsWith("Test.java"))
                .map(name -> name.replace(".java", "")).collect(Collectors.toSet());
            compare("test", found(chapter, "`(\\w+Test)`"), real);
        }
    }

    private static Set<String> found(String text, String pattern) {
        return Pattern.compile(pattern).matcher(text).results()
            .map(result -> result.group(1)).collect(Collectors.toSet());
    }

    private void compare(String what, Set<String> told, Set<String> real) {
        Set<String> all = new TreeSet<>(told);
        all.addAll(real);
        for (String name : all) {
            check.due("README.md names the " + what + " " + name, told.contains(name) ? 1 : 0, 1);
            check.due("there is the " + what + " " + name, real.contains(name) ? 1 : 0, 1);
        }
    }
}
