import java.io.IOException;
import java.lang.reflect.Method;
import java.lang.reflect.Modifier;
import java.nio.charset.StandardCharsets;
import java.nio.file.Files;
import java.nio.file.Path;
import java.util.ArrayList;
import java.util.Comparator;
import java.util.List;
import java.util.TreeSet;
import java.util.regex.Matcher;
import java.util.regex.Pattern;
import java.util.stream.Collectors;
import java.util.stream.Stream;

/** README.md: what it shows is run as it stands, what it lists is compared with what there is. */
public final class ReadmeTest {
    private static final Path SOURCES = Path.of("src");
    private static final Pattern BLOCK = Pattern.compile("(?ms)^```(\\w+)\\n(.*?)^```$");
    private static final Pattern SHOWN_CALL = Pattern.compile("([a-z]\\.(\\w+)\\(.*?\\));(.*)");
    private static final Pattern SHOWN_ANSWER = Pattern.compile("\\s*// (-?\\d+)(: .*| \\.\\.)?");
    private static final Pattern LISTED_CALL = Pattern.compile("(?m)^\\| `(\\w+)\\((.*?)\\)` \\|");
    private static final Pattern LISTED_TEST = Pattern.compile("(?m)^\\| (\\w+Test) \\|");
    private static final Pattern LISTED_ANSWER = Pattern.compile("(?m)^\\| (-\\d) \\| `FeatherShares\\.(\\w+)` \\|");

    private static final TreeSet<String> shownCalls = new TreeSet<>();

    public static void main(String[] args) throws Exception {
        String page = Files.readString(Path.of("README.md"), StandardCharsets.UTF_8);
        Path work = Files.createTempDirectory("readme");
        try {
            copySources(work);
            firstProgram(page, work);
            examples(page, work);
            oneTestAlone(page, work);
        } finally {
            remove(work);
        }
        calls(page);
        refusals(page);
        tests(page);
        Check.end("ReadmeTest");
    }

    private static void firstProgram(String page, Path work) throws Exception {
        Files.writeString(work.resolve("First.java"), blockWith(page, "java", "class First "));
        String printed = run(work, blockWith(page, "sh", "First.java"));
        Check.same("First", printed, blockWith(page, "text", "lines taken"));
    }

    private static void oneTestAlone(String page, Path work) throws Exception {
        String printed = run(work, blockWith(page, "sh", "TextTest"));
        Check.isTrue("TextTest alone tells " + printed, printed.startsWith("TextTest: ") && printed.endsWith(" 0 wrong\n"));
    }

    /** All examples are one program, in which each call that is shown tells what it answers. */
    private static void examples(String page, Path work) throws Exception {
        List<String> answersShown = new ArrayList<>();
        StringBuilder program = new StringBuilder("class Shown { public static void main(String[] args) {\n");
        for (String block : blocks(page, "java")) {
            if (block.contains("class First ")) {
                continue;
            }
            for (String line : block.split("\n")) {
                Matcher call = SHOWN_CALL.matcher(line);
                if (call.matches()) {
                    answersShown.add(call.group(1) + " " + answerShown(line, call.group(3)));
                    shownCalls.add(call.group(2));
                    program.append("System.out.println(").append(call.group(1)).append(");\n");
                } else {
                    program.append(line).append('\n');
                }
            }
        }
        Files.writeString(work.resolve("Shown.java"), program.append("} }\n"));
        String[] got = run(work, "javac -cp out -d out Shown.java\njava -cp out Shown").split("\n");
        Check.is("answers of the examples", got.length, answersShown.size());
        for (int i = 0; i < answersShown.size() && i < got.length; i++) {
            String shown = answersShown.get(i);
            String call = shown.substring(0, shown.lastIndexOf(' '));
            Check.same("example " + i, call + " " + got[i], shown);
        }
    }

    private static String answerShown(String line, String behindCall) {
        Matcher answer = SHOWN_ANSWER.matcher(behindCall);
        boolean isShown = answer.matches();
        Check.isTrue("an answer is shown: " + line, isShown);
        return isShown ? answer.group(1) : "";
    }

    private static void calls(String page) {
        TreeSet<String> listed = new TreeSet<>();
        Matcher row = LISTED_CALL.matcher(page);
        while (row.find()) {
            int numbers = row.group(2).isEmpty() ? 0 : row.group(2).split(", ").length;
            Check.isTrue(row.group(1) + " is listed once", listed.add(row.group(1) + " of " + numbers));
        }
        TreeSet<String> due = new TreeSet<>();
        for (Method m : FeatherShares.class.getDeclaredMethods()) {
            if (Modifier.isPublic(m.getModifiers())) {
                due.add(m.getName() + " of " + m.getParameterCount());
                Check.isTrue(m.getName() + " is shown in an example", shownCalls.contains(m.getName()));
            }
        }
        Check.same("the list of calls", listed.toString(), due.toString());
    }

    private static void refusals(String page) throws ReflectiveOperationException {
        int found = 0;
        Matcher row = LISTED_ANSWER.matcher(page);
        while (row.find()) {
            found++;
            int due = FeatherShares.class.getField(row.group(2)).getInt(null);
            Check.is(row.group(2), Integer.parseInt(row.group(1)), due);
        }
        Check.is("BAD, STATE, FULL, NONE", found, 4);
    }

    private static void tests(String page) throws IOException {
        TreeSet<String> listed = new TreeSet<>();
        Matcher row = LISTED_TEST.matcher(page);
        while (row.find()) {
            listed.add(row.group(1));
        }
        TreeSet<String> due = new TreeSet<>();
        try (Stream<Path> files = Files.list(SOURCES.resolve("test/java"))) {
            files.map(file -> file.getFileName().toString().replace(".java", ""))
                .filter(name -> name.endsWith("Test")).forEach(due::add);
        }
        Check.same("the list of tests", listed.toString(), due.toString());
    }

    private static List<String> blocks(String page, String language) {
        List<String> found = new ArrayList<>();
        Matcher block = BLOCK.matcher(page);
        while (block.find()) {
            if (block.group(1).equals(language)) {
                found.add(block.group(2));
            }
        }
        return found;
    }

    private static String blockWith(String page, String language, String word) {
        for (String block : blocks(page, language)) {
            if (block.contains(word)) {
                return block;
            }
        }
        Check.isTrue("README.md has a block of " + language + " with " + word, false);
        return "";
    }

    private static String run(Path folder, String commands) throws IOException, InterruptedException {
        ProcessBuilder shell = new ProcessBuilder("bash", "-ec", commands);
        Process process = shell.directory(folder.toFile()).redirectErrorStream(true).start();
        String printed = new String(process.getInputStream().readAllBytes(), StandardCharsets.UTF_8);
        Check.is("exit code of " + commands + printed, process.waitFor(), 0);
        return printed;
    }

    private static void copySources(Path work) throws IOException {
        for (Path file : filesUnder(SOURCES)) {
            Path copy = work.resolve(file);
            if (Files.isDirectory(file)) {
                Files.createDirectories(copy);
            } else {
                Files.copy(file, copy);
            }
        }
    }

    private static void remove(Path work) throws IOException {
        List<Path> files = filesUnder(work);
        files.sort(Comparator.reverseOrder());
        for (Path file : files) {
            Files.delete(file);
        }
    }

    private static List<Path> filesUnder(Path folder) throws IOException {
        try (Stream<Path> files = Files.walk(folder)) {
            return files.collect(Collectors.toCollection(ArrayList::new));
        }
    }
}
