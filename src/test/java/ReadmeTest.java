import java.io.File;
import java.io.IOException;
import java.lang.reflect.Method;
import java.lang.reflect.Modifier;
import java.net.URL;
import java.net.URLClassLoader;
import java.nio.file.Files;
import java.nio.file.Path;
import java.util.ArrayList;
import java.util.Arrays;
import java.util.Collections;
import java.util.Comparator;
import java.util.List;
import java.util.regex.Matcher;
import java.util.regex.Pattern;
import java.util.spi.ToolProvider;
import java.util.stream.Stream;

/** README.md: what it shows holds when it is run, and what it names is there. */
public final class ReadmeTest extends Cases {
    private static final Path README = Path.of("README.md");
    /** A line of an example that tells what its call answers. */
    private static final Pattern TOLD = Pattern.compile("(?:int|boolean) (\\w+) = .*; +// = (\\S+).*");

    public static void main(String[] args) {
        run(ReadmeTest.class);
    }

    private static List<String> blocks(String language) throws IOException {
        List<String> blocks = new ArrayList<>();
        Matcher m = Pattern.compile("```" + language + "\n(.*?)```", Pattern.DOTALL).matcher(Files.readString(README));
        while (m.find()) {
            blocks.add(m.group(1));
        }
        return blocks;
    }

    static void eachExampleAnswersWhatItTells() throws Exception {
        List<String> examples = blocks("java");
        due("README.md having examples", true, examples.size() >= 2);
        for (String example : examples) {
            for (String answer : answersOf(example)) {
                String[] parts = answer.split("\t");
                due(parts[0], parts[1], parts[2]);
            }
        }
    }

    /** Compiles an example and runs it: for each line that tells an answer, the line, what is told, what came. */
    private static List<String> answersOf(String example) throws Exception {
        StringBuilder code = new StringBuilder("public final class Example {\n"
                + "public static void run(java.util.List<String> answers) {\n");
        int told = 0;
        for (String line : example.split("\n")) {
            code.append(line).append('\n');
            Matcher m = TOLD.matcher(line);
            if (m.matches()) {
                String call = line.substring(0, line.indexOf("//")).trim().replace("\"", "\\\"");
                code.append("answers.add(\"" + call + "\\t" + m.group(2) + "\\t\" + " + m.group(1) + ");\n");
                told++;
            }
        }
        List<String> answers = runExample(code + "}\n}\n");
        due("answers of an example", told, answers.size());
        due("an example telling answers", true, told > 0);
        return answers;
    }

    private static List<String> runExample(String code) throws Exception {
        Path directory = Files.createTempDirectory("readme");
        try {
            Path source = directory.resolve("Example.java");
            Files.writeString(source, code);
            ToolProvider javac = ToolProvider.findFirst("javac").orElseThrow();
            due("javac of an example", 0, javac.run(System.out, System.out, "-cp",
                    System.getProperty("java.class.path"), "-d", directory.toString(), source.toString()));
            List<String> answers = new ArrayList<>();
            try (URLClassLoader loader = new URLClassLoader(new URL[] {directory.toUri().toURL()})) {
                loader.loadClass("Example").getMethod("run", List.class).invoke(null, answers);
            }
            return answers;
        } finally {
            remove(directory);
        }
    }

    /** The commands are run in a copy, so that they leave nothing behind. */
    static void eachCommandForOneTestRuns() throws Exception {
        List<String> commands = blocks("sh");
        due("the command for all tests", ".ci/run\n", commands.remove(0));
        due("its script being there to run", true, Files.isExecutable(Path.of(".ci/run")));
        due("README.md having commands for one test", true, commands.size() >= 2);
        Path directory = Files.createTempDirectory("readme");
        try {
            Path project = directory.resolve("main");
            copy(Path.of("src"), project.resolve("src"));
            copy(Path.of("../shared/tests"), directory.resolve("shared/tests"));
            for (String command : commands) {
                due(command, 0, exitCode(project, command));
            }
        } finally {
            remove(directory);
        }
    }

    private static int exitCode(Path directory, String command) throws Exception {
        Path output = directory.resolve("output");
        Process process = new ProcessBuilder("sh", "-e", "-c", command).directory(directory.toFile())
                .redirectErrorStream(true).redirectOutput(output.toFile()).start();
        int code = process.waitFor();
        if (code != 0) {
            System.out.println(Files.readString(output));
        }
        return code;
    }

    private static void copy(Path from, Path to) throws IOException {
        try (Stream<Path> files = Files.walk(from)) {
            for (Path file : files.toList()) {
                Path copied = to.resolve(from.relativize(file).toString());
                if (Files.isDirectory(file)) {
                    Files.createDirectories(copied);
                } else {
                    Files.write(copied, Files.readAllBytes(file));
                }
            }
        }
    }

    private static void remove(Path directory) throws IOException {
        try (Stream<Path> files = Files.walk(directory)) {
            files.sorted(Comparator.reverseOrder()).map(Path::toFile).forEach(File::delete);
        }
    }

    /** Each method of the face stands in a table, with as many parameters as it takes, and with what it is for. */
    static void eachMethodOfTheFaceIsNamed() throws IOException {
        String readme = Files.readString(README);
        due("DocumentFile() being named", true, readme.contains("\n| `DocumentFile()` | "));
        for (Method m : DocumentFile.class.getDeclaredMethods()) {
            if (Modifier.isPublic(m.getModifiers())) {
                String parameters = String.join(", ", Collections.nCopies(m.getParameterCount(), "\\w+"));
                Pattern row = Pattern.compile("\\n\\| `" + m.getName() + "\\(" + parameters + "\\)` \\| \\S");
                due(m + " being named", true, row.matcher(readme).find());
            }
        }
    }

    static void eachTestThatIsNamedIsThere() throws IOException {
        Matcher m = Pattern.compile("`(\\w+Test)(?:\\.(\\w+))?`").matcher(Files.readString(README));
        int named = 0;
        while (m.find()) {
            due(m.group() + " being there", true, isThere(m.group(1), m.group(2)));
            named++;
        }
        due("README.md naming tests", true, named > 0);
    }

    private static boolean isThere(String test, String caseOfIt) {
        try {
            Method[] methods = Class.forName(test).getDeclaredMethods();
            return caseOfIt == null || Arrays.stream(methods).anyMatch(m -> m.getName().equals(caseOfIt));
        } catch (ClassNotFoundException e) {
            return false;
        }
    }

    /** Each test of the project is named, or stands in the row of the promises. */
    static void eachTestThatIsThereIsNamed() throws IOException {
        String readme = Files.readString(README);
        String[] names = Path.of("src/test/java").toFile().list();
        due("tests being there", true, names != null);
        for (String name : names) {
            if (name.endsWith("Test.java") && !name.startsWith("Promise")) {
                due(name + " being named", true, readme.contains("`" + name.replace(".java", "") + "`"));
            }
        }
    }
}
