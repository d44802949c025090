import java.io.ByteArrayOutputStream;
import java.io.IOException;
import java.io.PrintStream;
import java.lang.reflect.InvocationTargetException;
import java.lang.reflect.Method;
import java.lang.reflect.Modifier;
import java.net.URL;
import java.net.URLClassLoader;
import java.nio.charset.StandardCharsets;
import java.nio.file.Files;
import java.nio.file.Path;
import java.util.ArrayList;
import java.util.Arrays;
import java.util.Comparator;
import java.util.List;
import java.util.Set;
import java.util.TreeMap;
import java.util.TreeSet;
import java.util.regex.Matcher;
import java.util.regex.Pattern;
import javax.tools.ToolProvider;

/** README.md tells the truth: each call in it answers what stands there, its program prints so, its tables are whole. */
public final class ReadmeTest {
    private static final int CALLS_MOST = 512;
    private static final String NEW_HOUSE = "CurvekeyHouse house = new CurvekeyHouse();";
    private static final Pattern CALL =
        Pattern.compile("house\\.(\\w+)\\(([^)]*)\\); +// (\"[^\"]*\"|-?\\d+|true|false|throws\\.\\w+)(: .+)?");

    private final TreeMap<String, Method> face = new TreeMap<>();
    private final Set<String> answered = new TreeSet<>();
    private CurvekeyHouse house;
    private int calls;

    private ReadmeTest() {
        for (Method method : CurvekeyHouse.class.getDeclaredMethods()) {
            if (Modifier.isPublic(method.getModifiers())) {
                face.put(method.getName(), method);
            }
        }
    }

    public static void main(String[] args) throws IOException, ReflectiveOperationException {
        Path root = Path.of(args.length > 0 ? args[0] : ".");
        String page = Files.readString(root.resolve("README.md"), StandardCharsets.UTF_8);
        new ReadmeTest().runs(blocks(page, "java"));
        program(root, blocks(page, "java").get(0), blocks(page, "text").get(0));
        calls(page, Files.readString(root.resolve("../shared/DOC.md"), StandardCharsets.UTF_8));
        classes(page);
        tests(page, root.resolve("src/test/java"));
        Due.yes("README.md names .ci/run", blocks(page, "sh").contains(".ci/run\n"));
        Due.yes(".ci/run can be run", Files.isExecutable(root.resolve(".ci/run")));
        Due.end();
    }

    private static List<String> blocks(String page, String language) {
        List<String> blocks = new ArrayList<>();
        Matcher block = Pattern.compile("(?s)\n```" + language + "\n(.*?)```\n").matcher(page);
        while (block.find()) {
            blocks.add(block.group(1));
        }
        return blocks;
    }

    private void runs(List<String> blocks) throws ReflectiveOperationException {
        for (String block : blocks) {
            if (!block.contains("class ")) {
                for (String line : block.split("\n")) {
                    line(line);
                }
            }
        }
        for (String name : face.keySet()) {
            Due.yes("a run shows what " + name + " answers", answered.contains(name));
        }
    }

    private void line(String line) throws ReflectiveOperationException {
        if (line.equals(NEW_HOUSE)) {
            house = new CurvekeyHouse();
            calls = 0;
            return;
        }
        Matcher call = CALL.matcher(line);
        boolean isCall = call.matches() && face.containsKey(call.group(1));
        Due.yes("a call and its answer: " + line, isCall);
        if (isCall) {
            calls++;
            Due.yes("calls of one house", house != null && calls <= CALLS_MOST);
            Due.text(call.group(3), line, ask(face.get(call.group(1)), call.group(2)));
        }
    }

    private String ask(Method method, String told) throws ReflectiveOperationException {
        String[] texts = told.isEmpty() ? new String[0] : told.split(", ");
        Class<?>[] types = method.getParameterTypes();
        if (texts.length != types.length) {
            return texts.length + " arguments";
        }
        Object[] arguments = new Object[texts.length];
        for (int index = 0; index < texts.length; index++) {
            boolean isWhether = types[index] == boolean.class;
            arguments[index] = isWhether ? (Object) Boolean.valueOf(texts[index]) : Integer.valueOf(texts[index]);
        }
        try {
            Object answer = method.invoke(house, arguments);
            answered.add(method.getName());
            return answer instanceof String ? "\"" + answer + "\"" : String.valueOf(answer);
        } catch (InvocationTargetException thrown) {
            return "throws." + thrown.getCause().getClass().getSimpleName();
        }
    }

    private static void program(Path root, String source, String due) throws IOException, ReflectiveOperationException {
        Path build = Files.createTempDirectory("readme");
        Path file = build.resolve("Mine.java");
        Files.writeString(file, source, StandardCharsets.UTF_8);
        int problems = ToolProvider.getSystemJavaCompiler().run(null, null, null, "-d", build.toString(),
            root.resolve("src/main/java/CurvekeyHouse.java").toString(), file.toString());
        Due.is(0, "problems of the program", () -> problems);
        if (problems == 0) {
            Due.text(due, "what the program prints", printed(build));
        }
        List<Path> left;
        try (var walked = Files.walk(build)) {
            left = walked.sorted(Comparator.reverseOrder()).toList();
        }
        for (Path each : left) {
            Files.delete(each);
        }
    }

    private static String printed(Path build) throws IOException, ReflectiveOperationException {
        PrintStream before = System.out;
        ByteArrayOutputStream kept = new ByteArrayOutputStream();
        try (URLClassLoader loader = new URLClassLoader(new URL[] {build.toUri().toURL()}, null);
                PrintStream keeping = new PrintStream(kept, true, StandardCharsets.UTF_8)) {
            System.setOut(keeping);
            loader.loadClass("Mine").getMethod("main", String[].class).invoke(null, (Object) new String[0]);
        } finally {
            System.setOut(before);
        }
        return kept.toString(StandardCharsets.UTF_8).replace(System.lineSeparator(), "\n");
    }

    /** Each call of the document, with its arguments and the number of its promise, in the document's order. */
    private static void calls(String page, String doc) {
        List<String> due = new ArrayList<>();
        Matcher promise = Pattern.compile("## Promise (\\d+): \\w+\n\n`\\w+ (\\w+)\\(([^)]*)\\)[^`]*`").matcher(doc);
        while (promise.find()) {
            String arguments = promise.group(3).replaceAll("(int|boolean) ", "");
            due.add(promise.group(2) + "(" + arguments + ") " + promise.group(1));
        }
        List<String> told = new ArrayList<>();
        Matcher row = Pattern.compile("(?m)^\\| `(\\w+\\([^`]*\\))` \\| [^|]+ \\| (\\d+) \\|$").matcher(page);
        while (row.find()) {
            told.add(row.group(1) + " " + row.group(2));
        }
        Due.is(44, "calls of the document", due::size);
        Due.text(String.join("\n", due), "the table of calls", String.join("\n", told));
    }

    private static void classes(String page) {
        Set<String> due = new TreeSet<>();
        Arrays.stream(CurvekeyHouse.class.getDeclaredClasses()).forEach(each -> due.add(each.getSimpleName()));
        Due.text(String.join("\n", due), "the table of classes", String.join("\n", names(page, "## How it is built")));
    }

    private static void tests(String page, Path folder) throws IOException {
        Set<String> due = new TreeSet<>();
        try (var listed = Files.list(folder)) {
            listed.forEach(file -> due.add(file.getFileName().toString().replace(".java", "")));
        }
        Due.text(String.join("\n", due), "the tables of tests", String.join("\n", names(page, "## To run its tests")));
    }

    /** What the tables below a heading name in their first column. */
    private static Set<String> names(String page, String heading) {
        Set<String> names = new TreeSet<>();
        String part = page.substring(page.indexOf(heading) + heading.length()).split("\n## ")[0];
        Matcher row = Pattern.compile("(?m)^\\| `(\\w+)` \\| .+ \\|$").matcher(part);
        while (row.find()) {
            names.add(row.group(1));
        }
        return names;
    }
}
