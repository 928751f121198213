import java.io.ByteArrayOutputStream;
import java.io.File;
import java.io.IOException;
import java.io.PrintStream;
import java.lang.reflect.Method;
import java.lang.reflect.Modifier;
import java.nio.charset.StandardCharsets;
import java.nio.file.Files;
import java.nio.file.Path;
import java.util.ArrayList;
import java.util.List;
import java.util.Map;
import java.util.Set;
import java.util.TreeMap;
import java.util.TreeSet;
import java.util.regex.Matcher;
import java.util.regex.Pattern;

/** What README.md shows: its example answers as it says, its setup is valid, its commands run, its names exist. */
public final class ReadmeTest {
    private static final Path EXAMPLE = Path.of("src/test/java/Example.java");
    private static final String[] KEYWORDS = {"person", "taster", "pancake", "bid", "together", "conflict", "seat",
        "fill", "leave", "score", "talk", "limit", "kitchen", "swap", "clear", "even", "copy", "repeat"};
    // This script runs this test, so that this test can not run the script.
    private static final String ALL_TESTS = ".ci/run";

    private ReadmeTest() {
    }

    public static void main(String[] args) throws IOException, InterruptedException {
        String readme = Files.readString(Path.of("README.md"));
        exampleIsTheFile(readme);
        exampleAnswersAsItSays();
        itemsMakeASetup(readme);
        errorCodesAreTold(readme);
        exceptionsAreTold(readme);
        callsAreThoseOfTheFace(readme);
        filesAreThere(readme);
        commandsRun(readme);
        Check.finish();
    }

    private static List<String> blocks(String readme, String language) {
        List<String> blocks = new ArrayList<>();
        Matcher matcher = Pattern.compile("^```" + language + "\n(.*?)^```$", Pattern.MULTILINE | Pattern.DOTALL)
            .matcher(readme);
        while (matcher.find()) {
            blocks.add(matcher.group(1));
        }
        return blocks;
    }

    private static String section(String readme, String title) {
        int start = readme.indexOf("\n" + title + "\n");
        if (start < 0) {
            throw new AssertionError("README.md has no " + title);
        }
        int end = readme.indexOf("\n##", start + 1);
        return end < 0 ? readme.substring(start) : readme.substring(start, end);
    }

    private static List<String> quoted(String text) {
        List<String> found = new ArrayList<>();
        Matcher matcher = Pattern.compile("`([^`\n]+)`").matcher(text);
        while (matcher.find()) {
            found.add(matcher.group(1));
        }
        return found;
    }

    /** The cells of the table's first column, without the head. */
    private static List<String> firstColumn(String section) {
        List<String> cells = new ArrayList<>();
        for (String line : section.split("\n")) {
            if (line.startsWith("| `")) {
                cells.add(line.substring(1, line.indexOf('|', 1)));
            }
        }
        return cells;
    }

    private static void exampleIsTheFile(String readme) throws IOException {
        List<String> blocks = blocks(readme, "java");
        Check.same("examples", blocks.size(), 1);
        Check.same("the example", blocks.get(0), Files.readString(EXAMPLE));
    }

    /** Each answer stands behind its call, up to a colon if something is explained. */
    private static void exampleAnswersAsItSays() throws IOException {
        StringBuilder due = new StringBuilder();
        int answers = 0;
        for (String line : Files.readAllLines(EXAMPLE)) {
            int comment = line.indexOf("// ");
            if (line.strip().startsWith("show(") && comment > 0) {
                due.append(line.substring(comment + 3).split(": ")[0]).append('\n');
                answers++;
            } else {
                Check.isFalse("a call without its answer: " + line, line.strip().matches("show\\(panel.*"));
            }
        }
        Check.isTrue("the example has answers", answers > 20);
        PrintStream out = System.out;
        ByteArrayOutputStream bytes = new ByteArrayOutputStream();
        System.setOut(new PrintStream(bytes, true, StandardCharsets.UTF_8));
        try {
            Example.main(new String[0]);
        } finally {
            System.setOut(out);
        }
        Check.same("the example", bytes.toString(StandardCharsets.UTF_8).replace("\r", ""), due.toString());
    }

    /** The table's items, one after the other, are a valid setup, and each item of the grammar is among them. */
    private static void itemsMakeASetup(String readme) {
        StringBuilder setup = new StringBuilder("panel 100 2");
        Set<String> words = new TreeSet<>();
        for (String cell : firstColumn(section(readme, "### A setup"))) {
            for (String item : quoted(cell)) {
                if (!item.endsWith("_ERROR")) {
                    setup.append("; ").append(item);
                    words.add(item.split(" ")[0]);
                }
            }
        }
        PancakePanel panel = Setups.valid(setup.toString());
        Check.same("items", words.toString(), new TreeSet<>(Set.of(KEYWORDS)).toString());
        if (panel.parseErrorCode() == 0) {
            Check.same("pancakes of the setup", panel.pancakeCount(), 2);
            Check.same("persons of the setup", panel.personCount(), 4);
            Check.same("talks of the setup", panel.talkCount(), 1);
        }
    }

    private static void errorCodesAreTold(String readme) {
        Map<String, Integer> codes = new TreeMap<>(Map.of("SYNTAX_ERROR", PancakePanel.SYNTAX_ERROR, "RANGE_ERROR",
            PancakePanel.RANGE_ERROR, "NAME_ERROR", PancakePanel.NAME_ERROR, "LIMIT_ERROR", PancakePanel.LIMIT_ERROR));
        String text = section(readme, "### A setup");
        for (Map.Entry<String, Integer> code : codes.entrySet()) {
            Check.isTrue("README tells " + code, text.contains("| `" + code.getKey() + "`, " + code.getValue() + " |"));
        }
    }

    private static void exceptionsAreTold(String readme) {
        Set<String> thrown = new TreeSet<>();
        for (Method method : PancakePanel.class.getMethods()) {
            if (method.getDeclaringClass() == PancakePanel.class) {
                for (Class<?> type : method.getExceptionTypes()) {
                    thrown.add(type.getSimpleName());
                }
            }
        }
        Set<String> told = new TreeSet<>();
        for (String cell : firstColumn(section(readme, "### What the calls throw"))) {
            told.addAll(quoted(cell));
        }
        Check.same("exceptions", told.toString(), thrown.toString());
    }

    /** Each call that the page names is one of the face, with as many arguments, and none is left out. */
    private static void callsAreThoseOfTheFace(String readme) {
        Map<String, Integer> face = new TreeMap<>();
        for (Method method : PancakePanel.class.getDeclaredMethods()) {
            if (Modifier.isPublic(method.getModifiers())) {
                face.put(method.getName(), method.getParameterCount());
            }
        }
        Set<String> named = new TreeSet<>();
        Matcher matcher = Pattern.compile("(\\w+)\\(([^()]*)\\)").matcher("");
        for (String quoted : quoted(readme)) {
            if (matcher.reset(quoted).matches()) {
                String name = matcher.group(1);
                int arguments = matcher.group(2).isEmpty() ? 0 : matcher.group(2).split(",").length;
                Check.same("the face's " + quoted, face.getOrDefault(name, -1), arguments);
                named.add(name);
            }
        }
        Check.same("calls told", named.toString(), face.keySet().toString());
    }

    /** Every test is in the table, and every file and class that the page names is there. */
    private static void filesAreThere(String readme) {
        Set<String> tests = new TreeSet<>();
        for (File file : new File("src/test/java").listFiles()) {
            if (file.getName().endsWith("Test.java")) {
                tests.add(file.getName().replace(".java", ""));
            }
        }
        Set<String> told = new TreeSet<>();
        for (String quoted : quoted(section(readme, "## Tests"))) {
            if (quoted.endsWith("Test")) {
                told.add(quoted);
            }
        }
        Check.same("tests told", told.toString(), tests.toString());
        for (String quoted : quoted(readme)) {
            if (quoted.contains("/")) {
                Check.isTrue(quoted + " is there", new File(quoted).exists());
            }
        }
    }

    /** The commands run one after the other where src and ../shared are, but what they make is thrown away. */
    private static void commandsRun(String readme) throws IOException, InterruptedException {
        Path place = Files.createTempDirectory("readme");
        Path checkout = Files.createDirectory(place.resolve("checkout"));
        Files.createSymbolicLink(checkout.resolve("src"), Path.of("src").toAbsolutePath());
        Files.createSymbolicLink(place.resolve("shared"), Path.of("../shared").toAbsolutePath());
        boolean areAllTold = false;
        int commands = 0;
        for (String block : blocks(readme, "sh")) {
            for (String command : block.split("\n")) {
                if (command.equals(ALL_TESTS)) {
                    areAllTold = true;
                } else {
                    Check.same(command + " ends with", run(command, checkout), 0);
                    commands++;
                }
            }
        }
        Check.isTrue("README tells " + ALL_TESTS, areAllTold);
        Check.isTrue("README tells of " + commands + " commands", commands >= 6);
        remove(place.toFile());
    }

    private static int run(String command, Path place) throws IOException, InterruptedException {
        Process process = new ProcessBuilder("sh", "-c", command).directory(place.toFile()).redirectErrorStream(true)
            .redirectOutput(ProcessBuilder.Redirect.DISCARD).start();
        return process.waitFor();
    }

    private static void remove(File file) {
        if (file.isDirectory() && !Files.isSymbolicLink(file.toPath())) {
            for (File inside : file.listFiles()) {
                remove(inside);
            }
        }
        file.delete();
    }
}
