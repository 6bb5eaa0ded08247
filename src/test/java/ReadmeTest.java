import java.io.IOException;
import java.lang.reflect.Method;
import java.nio.charset.StandardCharsets;
import java.nio.file.DirectoryStream;
import java.nio.file.Files;
import java.nio.file.Path;
import java.util.ArrayList;
import java.util.HashMap;
import java.util.List;
import java.util.Map;
import java.util.regex.Matcher;
import java.util.regex.Pattern;

/** README.md keeps to the class: the calls that it shows answer what it says, and its commands do what it says. */
final class ReadmeTest {
    private static final Pattern NEW = Pattern.compile("TownKnows town = new TownKnows\\(\\);");
    private static final Pattern CALL = Pattern.compile("town\\.(\\w+)\\(([^()]*)\\)\\)?;\\s*// (-?\\d+)\\b.*");
    private static final Pattern FINDING = Pattern.compile("\\| ([A-Z]+) \\| (-\\d+) \\| .*");
    private static final Pattern NAMED = Pattern.compile("-1000\\d\\d: ([A-Z]+)\\b");

    private static final String[] FINDINGS =
        {"BEYOND", "MISSING", "SIZE", "KIND", "FULL", "NONE", "APART", "SWORN", "UNTRUE"};

    public static void main(String[] args) throws IOException, ReflectiveOperationException, InterruptedException {
        String text = Files.readString(Path.of("README.md"));
        List<String> runs = blocks(text, "java");
        Due.says("each answer that README.md shows is the one that the class gives");
        Due.is("runs of calls", runs.size(), 2);
        Map<String, Integer> met = new HashMap<>();
        for (String run : runs) {
            answers(run, met);
        }
        for (String finding : FINDINGS) {
            Due.holds("a run shows " + finding, met.containsKey(finding));
        }
        findings(text);
        Due.says("README.md says how the class is compiled");
        Due.is("commands", blocks(text, "sh").size(), 3);
        program(runs.get(0), blocks(text, "sh").get(0));
        Due.says("README.md says how its tests are run");
        tests(text);
        Due.end("ReadmeTest");
    }

    private static List<String> blocks(String text, String language) {
        List<String> found = new ArrayList<>();
        Matcher block = Pattern.compile("(?s)```" + language + "\n(.*?)```").matcher(text);
        while (block.find()) {
            found.add(block.group(1));
        }
        return found;
    }

    /** Each line that calls the town must show an answer, so that none goes unasked. */
    private static void answers(String run, Map<String, Integer> met) throws ReflectiveOperationException {
        TownKnows town = null;
        for (String line : run.split("\n")) {
            Matcher call = CALL.matcher(line);
            if (NEW.matcher(line).find()) {
                town = new TownKnows();
            } else if (call.find()) {
                int want = Integer.parseInt(call.group(3));
                Due.is(line.strip(), ask(town, call.group(1), call.group(2)), want);
                Due.is(line.strip() + " names its finding", named(line, met), want < -99999 ? want : 0);
            } else {
                Due.holds("an answer is shown: " + line, !line.contains("town."));
            }
        }
    }

    private static int ask(TownKnows town, String name, String given) throws ReflectiveOperationException {
        for (Method method : TownKnows.class.getDeclaredMethods()) {
            if (method.getName().equals(name)) {
                String[] texts = given.isEmpty() ? new String[0] : given.split(", ");
                Object[] values = new Object[texts.length];
                for (int i = 0; i < texts.length; i++) {
                    boolean number = method.getParameterTypes()[i] == int.class;
                    values[i] = number ? (Object) Integer.valueOf(texts[i]) : (Object) Boolean.valueOf(texts[i]);
                }
                return (Integer) method.invoke(town, values);
            }
        }
        throw new NoSuchMethodException(name);
    }

    /** The value of the finding whose name a line shows behind its number; 0 if it shows none. */
    private static int named(String line, Map<String, Integer> met) {
        Matcher name = NAMED.matcher(line);
        if (!name.find()) {
            return 0;
        }
        met.merge(name.group(1), 1, Integer::sum);
        return valueOf(name.group(1));
    }

    private static int valueOf(String finding) {
        for (int i = 0; i < FINDINGS.length; i++) {
            if (FINDINGS[i].equals(finding)) {
                return -100001 - i;
            }
        }
        return 0;
    }

    private static void findings(String text) {
        Due.says("README.md says what a finding is");
        int count = 0;
        for (String line : text.split("\n")) {
            Matcher row = FINDING.matcher(line);
            if (row.matches()) {
                Due.is(row.group(1), Integer.parseInt(row.group(2)), valueOf(row.group(1)));
                count++;
            }
        }
        Due.is("findings", count, FINDINGS.length);
    }

    /** The commands are run as they stand, in a folder that has the class and the program alone. */
    private static void program(String program, String commands) throws IOException, InterruptedException {
        Path folder = Files.createTempDirectory("readme");
        Path source = folder.resolve("src/main/java");
        Files.createDirectories(source);
        Files.copy(Path.of("src/main/java/TownKnows.java"), source.resolve("TownKnows.java"));
        Files.writeString(folder.resolve("Evening.java"), program);
        String printed = "";
        for (String command : commands.strip().split("\n")) {
            Process process = new ProcessBuilder(command.split(" ")).directory(folder.toFile())
                .redirectErrorStream(true).start();
            printed = new String(process.getInputStream().readAllBytes(), StandardCharsets.UTF_8);
            Due.is(command + " ends: " + printed, process.waitFor(), 0);
        }
        Due.holds("it prints 2: " + printed, printed.strip().equals("2"));
        delete(folder);
    }

    private static void delete(Path path) throws IOException {
        if (Files.isDirectory(path)) {
            try (DirectoryStream<Path> inside = Files.newDirectoryStream(path)) {
                for (Path each : inside) {
                    delete(each);
                }
            }
        }
        Files.delete(path);
    }

    private static void tests(String text) throws IOException {
        Due.is("the script", blocks(text, "sh").get(1).strip().equals(".ci/run") ? 1 : 0, 1);
        Due.holds("it can be run", Files.isExecutable(Path.of(".ci/run")));
        try (DirectoryStream<Path> tests = Files.newDirectoryStream(Path.of("src/test/java"), "*.java")) {
            for (Path test : tests) {
                String name = test.getFileName().toString().replace(".java", "");
                Due.holds(name + " is told of", name.equals("Due") || text.contains("`" + name + "`"));
            }
        }
    }
}
