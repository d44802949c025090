import java.io.IOException;
import java.lang.reflect.Field;
import java.lang.reflect.Method;
import java.lang.reflect.Modifier;
import java.nio.charset.StandardCharsets;
import java.nio.file.Files;
import java.nio.file.Path;
import java.util.ArrayList;
import java.util.Arrays;
import java.util.List;
import java.util.Set;
import java.util.TreeSet;
import java.util.regex.Matcher;
import java.util.regex.Pattern;

/** The face is the document's, and the file keeps to what of LANGUAGE.md can be read off it. */
public final class LanguageTest {
    private static final String[] FORBIDDEN = {"import", "package", "catch", "try", "finally", "synchronized", "assert",
        "protected", "instanceof", "Integer", "Long", "Double", "Object", "System", "Arrays", "Thread", "native",
        "equals", "hashCode", "getMessage", "super", "interface", "var", "yield", "volatile", "transient", "float", "double"};

    public static void main(String[] args) throws IOException {
        Path root = Path.of(args.length > 0 ? args[0] : ".");
        face(Files.readString(root.resolve("../shared/DOC.md"), StandardCharsets.UTF_8));
        members();
        String source = Files.readString(root.resolve("src/main/java/CurvekeyHouse.java"), StandardCharsets.UTF_8);
        words(source);
        arrays(code(source));
        methods(code(source));
        farBehindTheLastCall();
        Due.end();
    }

    /** What is answered behind the 512th call is free, but even there no call may throw what it does not name. */
    private static void farBehindTheLastCall() {
        CurvekeyHouse house = new CurvekeyHouse();
        house.found(5, 0, 2);
        house.put(0, 0);
        boolean isQuiet = true;
        for (int time = 0; time < 6000; time++) {
            int x = time % 32;
            int y = time / 32 % 32;
            isQuiet &= Picture.thrownBy(house, each -> each.move(0, x, y)).isEmpty();
        }
        Due.yes("moves", isQuiet);
        Due.text("java.lang.IllegalStateException", "a tick", Picture.thrownBy(house, each -> each.tick(9)));
        Due.text("", "asOf", Picture.thrownBy(house, each -> each.asOf(0, 0, 32, 32, 9)));
        Due.text("", "remove", Picture.thrownBy(house, each -> each.remove(0)));
        Due.text("", "sweep", Picture.thrownBy(house, CurvekeyHouse::sweep));
        Due.text("", "digest", Picture.thrownBy(house, CurvekeyHouse::digest));
    }

    private static void face(String doc) {
        Set<String> want = new TreeSet<>();
        Matcher line = Pattern.compile("    public (\\S+) (\\w+)\\(([^)]*)\\)(?: throws ([^;]+))?;").matcher(doc);
        while (line.find()) {
            List<String> types = new ArrayList<>();
            for (String parameter : line.group(3).split(", ")) {
                types.add(parameter.split(" ")[0]);
            }
            String thrown = line.group(4) == null ? "" : line.group(4);
            want.add(line.group(1) + " " + line.group(2) + "(" + String.join(", ", types) + ") " + thrown);
        }
        Set<String> got = new TreeSet<>();
        for (Method method : CurvekeyHouse.class.getDeclaredMethods()) {
            if (Modifier.isPublic(method.getModifiers())) {
                got.add(method.getReturnType().getSimpleName() + " " + method.getName()
                    + "(" + names(method.getParameterTypes()) + ") " + names(method.getExceptionTypes()));
            }
        }
        Due.is(44, "methods of the face", want::size);
        Due.text(String.join("\n", want), "the face", String.join("\n", got));
        Due.is(1, "constructors", () -> CurvekeyHouse.class.getConstructors().length);
    }

    private static String names(Class<?>[] types) {
        return String.join(", ", Arrays.stream(types).map(Class::getSimpleName).toList());
    }

    private static void members() {
        Set<String> shown = new TreeSet<>();
        Class<?> house = CurvekeyHouse.class;
        Due.yes("final", Modifier.isFinal(house.getModifiers()) && Modifier.isPublic(house.getModifiers()));
        for (Method method : house.getDeclaredMethods()) {
            if (Modifier.isPublic(method.getModifiers())) {
                Due.yes("once: " + method.getName(), shown.add(method.getName()));
            }
        }
        List<Class<?>> all = new ArrayList<>(List.of(house));
        all.addAll(List.of(house.getDeclaredClasses()));
        Due.yes("some twelve classes", all.size() <= 12);
        for (Class<?> each : all) {
            int fields = 0;
            for (Field field : each.getDeclaredFields()) {
                Due.yes("private " + field, Modifier.isPrivate(field.getModifiers()));
                boolean isStatic = Modifier.isStatic(field.getModifiers());
                Due.yes("static is final " + field, !isStatic || Modifier.isFinal(field.getModifiers()));
                fields += isStatic ? 0 : 1;
            }
            Due.yes("some twenty fields", fields <= 20);
            for (Method method : each.getDeclaredMethods()) {
                boolean isFace = each == house && Modifier.isPublic(method.getModifiers());
                Due.yes("no name of the face: " + method, isFace || !shown.contains(method.getName()));
                Due.yes("private: " + method, isFace || each != house || Modifier.isPrivate(method.getModifiers()));
                Due.yes("seven parameters: " + method, method.getParameterCount() <= 7);
            }
            Due.yes("static: " + each, each == house || Modifier.isStatic(each.getModifiers()));
        }
    }

    /** The source without its comments and texts. */
    private static String code(String source) {
        return source.replaceAll("(?s)/\\*.*?\\*/", "").replaceAll("//[^\n]*", "").replaceAll("\"[^\"\n]*\"", "\"\"");
    }

    private static void words(String source) {
        String code = code(source);
        for (String word : FORBIDDEN) {
            Due.yes("without " + word, !Pattern.compile("\\b" + word + "\\b").matcher(code).find());
        }
        for (String sign : new String[] {"->", "::", "Exact", "@", "<<<", "\"\"\""}) {
            Due.yes("without " + sign, !code.contains(sign));
        }
        Due.yes("ASCII", source.chars().allMatch(c -> c < 128));
        Matcher library = Pattern.compile("\\bMath\\.(\\w+)").matcher(code);
        while (library.find()) {
            Due.yes("Math." + library.group(1), Set.of("min", "max", "abs").contains(library.group(1)));
        }
        Matcher thrown = Pattern.compile("throw new (\\w+)").matcher(code);
        while (thrown.find()) {
            Due.yes("throws " + thrown.group(1), Set.of("IllegalArgumentException", "IllegalStateException",
                "IndexOutOfBoundsException").contains(thrown.group(1)));
        }
    }

    /** Arrays are touched by a row alone, behind its look at the index; divisors are numbers, but one. */
    private static void arrays(String code) {
        String row = code.substring(code.indexOf("private static final class Row"), code.indexOf("class Box"));
        Due.is(5, "brackets of the row", () -> row.chars().filter(c -> c == '[').count());
        Due.is(7, "brackets of the file", () -> code.chars().filter(c -> c == '[').count());
        Matcher divisor = Pattern.compile("[/%]=? *([\\w(]+)").matcher(code);
        while (divisor.find()) {
            String name = divisor.group(1);
            Due.yes("divisor " + name, name.matches("[1-9][0-9]*") || name.equals("size") || name.equals("wide"));
        }
        Due.yes("size is looked at", code.contains("size < 1 ? 0 : page * machines / size"));
        Due.yes("wide is looked at",
            code.contains("wide <= 0 ? first : first + (key - least) * (last - first) / wide"));
    }

    private static void methods(String code) {
        int length = 0;
        int longest = 0;
        for (String line : code.split("\n")) {
            Due.yes("a line's length", line.length() <= 120);
            length = line.matches("( {4}| {8})(private|public|[a-z]).*\\{") ? 1 : length + 1;
            if (line.matches(" {4,8}\\}")) {
                longest = line.contains("class") ? longest : Math.max(longest, Math.min(length, 1000));
            }
        }
        int most = longest;
        Due.yes("methods of " + most + " lines", most <= 60);
    }
}
