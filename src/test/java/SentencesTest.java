import java.io.IOException;
import java.nio.charset.StandardCharsets;
import java.nio.file.Files;
import java.nio.file.Path;
import java.util.ArrayList;
import java.util.List;
import java.util.TreeMap;
import java.util.regex.Matcher;
import java.util.regex.Pattern;

/**
 * Whether each sentence of the document has a test that names it by Due.says, and whether the document has each
 * sentence that a test names.
 */
public final class SentencesTest {
    private static final Pattern SAYS =
        Pattern.compile("Due\\.says\\((\\d+),\\s*(\"(?:[^\"\\\\]|\\\\.)*\"(?:\\s*\\+\\s*\"(?:[^\"\\\\]|\\\\.)*\")*)\\)");
    private static final Pattern TEXT = Pattern.compile("\"((?:[^\"\\\\]|\\\\.)*)\"");

    public static void main(String[] args) throws IOException {
        Path root = Path.of(args.length > 0 ? args[0] : ".");
        String doc = Files.readString(root.resolve("../shared/DOC.md"), StandardCharsets.UTF_8);
        TreeMap<Integer, List<String>> said = said(root.resolve("src/test/java"));
        TreeMap<Integer, String> parts = parts(doc);
        Due.is(45, "promises", () -> parts.lastKey());
        for (int promise : said.keySet()) {
            for (String sentence : said.get(promise)) {
                Due.yes("the document says, in " + promise + ": " + sentence,
                    parts.getOrDefault(promise, "").contains(sentence));
            }
        }
        for (int promise : parts.keySet()) {
            for (String sentence : promise == 0 ? sentences(parts.get(0)) : lines(parts.get(promise))) {
                Due.yes("a test names, of " + promise + ": " + sentence, isNamed(sentence, said.get(promise)));
            }
        }
        Due.end();
    }

    private static TreeMap<Integer, List<String>> said(Path tests) throws IOException {
        TreeMap<Integer, List<String>> said = new TreeMap<>();
        List<Path> files;
        try (var listed = Files.list(tests)) {
            files = listed.filter(file -> file.toString().endsWith("EdgesTest.java")).toList();
        }
        for (Path file : files) {
            Matcher says = SAYS.matcher(Files.readString(file, StandardCharsets.UTF_8));
            while (says.find()) {
                StringBuilder sentence = new StringBuilder();
                Matcher text = TEXT.matcher(says.group(2));
                while (text.find()) {
                    sentence.append(text.group(1).replace("\\\"", "\""));
                }
                said.computeIfAbsent(Integer.valueOf(says.group(1)), each -> new ArrayList<>()).add(sentence.toString());
            }
        }
        return said;
    }

    /** 0 is the description with what stands ahead of the face; then promise by promise. */
    private static TreeMap<Integer, String> parts(String doc) {
        TreeMap<Integer, String> parts = new TreeMap<>();
        String[] all = doc.split("\n## ");
        for (String part : all) {
            Matcher number = Pattern.compile("Promise (\\d+): ").matcher(part);
            if (number.lookingAt()) {
                parts.put(Integer.valueOf(number.group(1)), part);
            } else if (part.startsWith("Description") || part.startsWith("What it is")) {
                parts.merge(0, part, (one, other) -> one + "\n" + other);
            }
        }
        return parts;
    }

    /** The sentences of the description; headings are none, nor what only says what follows. */
    private static List<String> sentences(String description) {
        List<String> sentences = new ArrayList<>();
        for (String line : description.split("\n")) {
            for (String sentence : line.strip().split("(?<=\\.)\\s+")) {
                boolean isNone = sentence.isEmpty() || line.startsWith("==") || sentence.equals("Description")
                    || sentence.equals("What it is") || sentence.startsWith("A store that walks the plane")
                    || sentence.startsWith("Its calls:") || sentence.startsWith("One asks for")
                    || sentence.startsWith("The constructor and the methods follow");
                if (!isNone) {
                    sentences.add(sentence);
                }
            }
        }
        return sentences;
    }

    /** What a promise says it returns and throws, and the arguments whose values it tells. */
    private static List<String> lines(String promise) {
        List<String> lines = new ArrayList<>();
        for (String line : promise.split("\n")) {
            boolean isReturned = line.startsWith("Returns ") && !line.matches("Returns that\\.|Returns the KEY\\.|Returns d\\.");
            boolean isTold = line.startsWith("- ") && Pattern.compile("whether|\\d").matcher(line).find();
            if (isReturned || isTold || line.startsWith("Throws ")) {
                lines.add(line);
            }
        }
        return lines;
    }

    private static boolean isNamed(String sentence, List<String> said) {
        if (said != null) {
            for (String each : said) {
                if (sentence.contains(each) || each.contains(sentence)) {
                    return true;
                }
            }
        }
        return false;
    }
}
