import java.io.IOException;
import java.lang.reflect.InvocationTargetException;
import java.lang.reflect.Method;
import java.lang.reflect.Modifier;
import java.nio.file.Files;
import java.nio.file.Path;
import java.util.ArrayList;
import java.util.Arrays;
import java.util.List;
import java.util.TreeSet;
import java.util.regex.Matcher;
import java.util.regex.Pattern;
import java.util.stream.Stream;

/** What README.md says of the class and of its tests, held against both. It is run from the project's folder. */
public final class ReadmeRuns {
    private static final Path MAIN = Path.of("src/main/java");
    private static final Path TESTS = Path.of("src/test/java");
    private static final Pattern CALL = Pattern.compile("x\\.(\\w+)\\((.*?)\\); +// (\\S+): \\S.*");
    private static final Pattern ROW = Pattern.compile("\\| `(\\w+)\\((.*?)\\)` \\| .+ \\|.*\\|");
    private static final Pattern FILE = Pattern.compile("(?<![.\\w])\\w+\\.java");
    private static final Sheet SHEET = new Sheet("ReadmeRuns");

    private final String text;

    private ReadmeRuns(String text) {
        this.text = text;
    }

    private String example() {
        int from = text.indexOf("```java\n") + 8;
        return from < 8 ? "" : text.substring(from, text.indexOf("```", from));
    }

    private static Object[] numbers(String told) {
        List<Object> all = new ArrayList<>();
        for (String one : told.isBlank() ? new String[0] : told.split(", *")) {
            all.add(Long.decode(one).intValue());
        }
        return all.toArray();
    }

    private static Method method(String name, int parameters) throws NoSuchMethodException {
        Class<?>[] types = new Class<?>[parameters];
        Arrays.fill(types, int.class);
        return HillFinder.class.getMethod(name, types);
    }

    private static String answer(HillFinder x, String name, Object[] numbers) {
        try {
            return String.valueOf(method(name, numbers.length).invoke(x, numbers));
        } catch (InvocationTargetException e) {
            return e.getCause().getClass().getSimpleName();
        } catch (ReflectiveOperationException e) {
            return "no such call";
        }
    }

    private void exampleAnswers() {
        HillFinder x = new HillFinder();
        String[] lines = example().split("\n");
        SHEET.due("the example's first line", lines[0], "HillFinder x = new HillFinder();");
        for (int i = 1; i < lines.length; i++) {
            Matcher call = CALL.matcher(lines[i]);
            if (call.matches()) {
                SHEET.due(lines[i], answer(x, call.group(1), numbers(call.group(2))), call.group(3));
            } else {
                SHEET.due("a call and its answer", lines[i], "x.call(..);   // answer: words");
            }
        }
    }

    private void tableHasTheFace() {
        TreeSet<String> due = new TreeSet<>();
        for (Method m : HillFinder.class.getDeclaredMethods()) {
            if (Modifier.isPublic(m.getModifiers())) {
                due.add(m.getName() + " of " + m.getParameterCount());
            }
        }
        TreeSet<String> told = new TreeSet<>();
        for (String line : text.split("\n")) {
            Matcher row = ROW.matcher(line);
            if (row.matches()) {
                told.add(row.group(1) + " of " + (row.group(2).isEmpty() ? 0 : row.group(2).split(",").length));
            }
        }
        SHEET.due("the calls of the table", told.toString(), due.toString());
    }

    private void filesAreNamed() {
        TreeSet<String> due = new TreeSet<>();
        for (Path folder : List.of(MAIN, TESTS)) {
            try (Stream<Path> files = Files.list(folder)) {
                files.forEach(file -> due.add(file.getFileName().toString()));
            } catch (IOException e) {
                throw new IllegalStateException(folder + " can't be read");
            }
        }
        TreeSet<String> told = new TreeSet<>();
        Matcher file = FILE.matcher(text);
        while (file.find()) {
            told.add(file.group());
        }
        SHEET.due("the files", told.toString(), due.toString());
        SHEET.due("NOTES.md", Files.isRegularFile(Path.of("NOTES.md")), true);
    }

    private void runScriptIsThere() {
        SHEET.due("README.md names .ci/run", text.contains("```sh\n.ci/run\n```"), true);
        SHEET.due(".ci/run can be run", Files.isExecutable(Path.of(".ci/run")), true);
        SHEET.due("NONE", "`HillFinder.NONE` is " + HillFinder.NONE + ".", "`HillFinder.NONE` is -1.");
        SHEET.due("README.md says so", text.contains("`HillFinder.NONE` is -1."), true);
    }

    public static void main(String[] args) throws IOException {
        ReadmeRuns page = new ReadmeRuns(Files.readString(Path.of("README.md")));
        SHEET.sentence("README: Behind each call stands what it answers", page::exampleAnswers);
        SHEET.sentence("README: the table of calls", page::tableHasTheFace);
        SHEET.sentence("README: the files that it names", page::filesAreNamed);
        SHEET.sentence("README: How to run its tests", page::runScriptIsThere);
        SHEET.end();
    }
}
