import java.io.File;
import java.io.IOException;
import java.lang.reflect.Method;
import java.lang.reflect.Modifier;
import java.nio.charset.StandardCharsets;
import java.nio.file.Files;
import java.nio.file.Path;
import java.util.ArrayList;
import java.util.List;
import java.util.Set;
import java.util.TreeSet;
import java.util.regex.Matcher;
import java.util.regex.Pattern;
import java.util.stream.Stream;

/**
 * That README.md holds: its calls answer what it says, its example is the file and prints what it says, its commands
 * run, and its tables name the tests. Runs in the project's folder.
 */
public final class ReadmeTest {
    private static final Path README = Path.of("README.md");
    private static final Path EXAMPLE = Path.of("src/example/java/Example.java");
    private static final Path TESTS = Path.of("src/test/java");
    private static final String FOLDER_OF_COMMANDS = "/tmp/out";

    private static final Pattern BLOCK = Pattern.compile("^```(\\w+)\n(.*?)^```$", Pattern.MULTILINE | Pattern.DOTALL);
    private static final Pattern CALL = Pattern.compile("(.*\\));(?: +// (->|throws) (.*))?");
    private static final Pattern ROW = Pattern.compile("^\\| `(\\w+Test)` \\|", Pattern.MULTILINE);
    private static final Pattern NAME = Pattern.compile("machine\\.(\\w+)\\(");

    private static String page = "";
    private static Path folder = Path.of("");

    private ReadmeTest() {
    }

    public static void main(String[] args) throws IOException, InterruptedException {
        page = Files.readString(README, StandardCharsets.UTF_8);
        folder = Files.createTempDirectory("readme");
        try {
            exampleIsTheFile();
            callsAnswerWhatThePageSays();
            everyMethodIsShown();
            commandsRun();
            tablesNameTheTests();
        } finally {
            delete(folder);
        }
        Check.ends("ReadmeTest");
    }

    private static void exampleIsTheFile() throws IOException {
        Check.same("the first block of README is the example", Files.readString(EXAMPLE, StandardCharsets.UTF_8), blocks("java").get(0));
    }

    /** All calls of the page in one program, in their order. */
    private static void callsAnswerWhatThePageSays() throws IOException, InterruptedException {
        StringBuilder program = new StringBuilder("public final class Session {\n    public static void main(String[] args) {\n");
        for (String line : shownCalls().split("\n")) {
            program.append("        ").append(checked(line)).append('\n');
        }
        program.append("        Check.ends(\"README\");\n    }\n}\n");
        Path source = folder.resolve("Session.java");
        Files.writeString(source, program);
        String path = System.getProperty("java.class.path");
        Check.same("the calls of README are compiled", "exit 0\n", outcome("javac", "-cp", path, "-d", folder.toString(), source.toString()));
        Check.same("the calls of README", "README: all answers are as due\nexit 0\n",
            outcome("java", "-cp", path + File.pathSeparator + folder, "Session"));
    }

    private static String checked(String line) {
        Matcher call = CALL.matcher(line);
        if (!call.matches()) {
            Check.same("a line of a block is a call", "a call", line);
            return "";
        }
        if (call.group(2) == null) {
            return line;
        }
        String what = '"' + call.group(1).replace("\"", "'") + '"';
        if (call.group(2).equals("throws")) {
            String test = call.group(3).replace("IndexOutOfBounds", "Index").replace("Illegal", "").replace("Exception", "");
            return "Check.throws" + test + "(" + what + ", () -> " + call.group(1) + ");";
        }
        String due = call.group(3).split(", ", 2)[0];
        return "Check.same(" + what + ", String.valueOf(" + due + "), String.valueOf(" + call.group(1) + "));";
    }

    private static void everyMethodIsShown() {
        Set<String> shown = new TreeSet<>();
        Matcher name = NAME.matcher(shownCalls());
        while (name.find()) {
            shown.add(name.group(1));
        }
        Set<String> due = new TreeSet<>();
        for (Method method : Tabulator.class.getDeclaredMethods()) {
            if (Modifier.isPublic(method.getModifiers())) {
                due.add(method.getName());
            }
        }
        Check.same("the methods that README calls", due, shown);
    }

    /** The commands in their order; .ci/run is what runs this test. */
    private static void commandsRun() throws IOException, InterruptedException {
        List<String> commands = blocks("sh");
        Check.same("the commands of README", 3, commands.size());
        Check.same("the output of the example", blocks("text").get(0) + "exit 0\n", outcome("sh", "-ec", inFolder(commands.get(0))));
        Check.same("the command for all tests", ".ci/run\n", commands.get(1));
        Check.same(".ci/run can be called", true, Files.isExecutable(Path.of(".ci/run")));
        Check.same("the command for one test", "TrialTest: all answers are as due\nexit 0\n", outcome("sh", "-ec", inFolder(commands.get(2))));
    }

    private static void tablesNameTheTests() throws IOException {
        Set<String> named = new TreeSet<>();
        Matcher row = ROW.matcher(page);
        while (row.find()) {
            named.add(row.group(1));
        }
        Set<String> due = new TreeSet<>();
        try (Stream<Path> files = Files.list(TESTS)) {
            files.map(file -> file.getFileName().toString()).filter(file -> file.endsWith("Test.java"))
                .forEach(file -> due.add(file.substring(0, file.length() - ".java".length())));
        }
        Check.same("the tests that README names", due, named);
    }

    private static String shownCalls() {
        List<String> blocks = blocks("java");
        return String.join("", blocks.subList(1, blocks.size()));
    }

    private static List<String> blocks(String language) {
        List<String> found = new ArrayList<>();
        Matcher block = BLOCK.matcher(page);
        while (block.find()) {
            if (block.group(1).equals(language)) {
                found.add(block.group(2));
            }
        }
        return found;
    }

    private static String inFolder(String commands) {
        return commands.replace(FOLDER_OF_COMMANDS, folder.resolve("out").toString());
    }

    private static String outcome(String... command) throws IOException, InterruptedException {
        Process process = new ProcessBuilder(command).redirectErrorStream(true).start();
        String output = new String(process.getInputStream().readAllBytes(), StandardCharsets.UTF_8);
        return output + "exit " + process.waitFor() + "\n";
    }

    private static void delete(Path path) throws IOException {
        if (Files.isDirectory(path)) {
            List<Path> parts;
            try (Stream<Path> files = Files.list(path)) {
                parts = files.toList();
            }
            for (Path part : parts) {
                delete(part);
            }
        }
        Files.delete(path);
    }
}
