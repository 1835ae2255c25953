import java.io.ByteArrayOutputStream;
import java.io.IOException;
import java.io.PrintStream;
import java.net.URL;
import java.net.URLClassLoader;
import java.nio.file.DirectoryStream;
import java.nio.file.Files;
import java.nio.file.Path;
import java.util.ArrayList;
import java.util.Arrays;
import java.util.List;
import java.util.spi.ToolProvider;

/**
 * README.md says how the class is used: its example compiles and prints what the page says, each
 * promise of the document stands there in the document's words, and each test is named.
 */
public final class ReadmeTest {
    private static final Path PAGE = Path.of("README.md");
    private static final Path DOCUMENT = Path.of("../shared/DOC.md");
    private static final Path TESTS = Path.of("src/test/java");
    private static final Path SOURCE = Path.of("src/main/java/SharedPalimpsest.java");
    private static final int PROMISES = 51;

    public static void main(String[] arguments) throws Exception {
        String page = Files.readString(PAGE);
        exampleCompilesAndPrints(page);
        eachPromiseStandsThere(page);
        eachTestIsNamed(page);
        Check.same("the page names .ci/run", page.contains("\n.ci/run\n"), true);
        Check.end("ReadmeTest");
    }

    // the example

    private static void exampleCompilesAndPrints(String page) throws Exception {
        Path folder = Files.createTempDirectory("readme");
        try {
            Path example = folder.resolve("Example.java");
            Files.writeString(example, block(page, "java"));
            ToolProvider compiler = ToolProvider.findFirst("javac").orElseThrow();
            int code = compiler.run(System.out, System.out, "-encoding", "UTF-8", "-Xlint:all",
                    "-Werror", "-d", folder.toString(), SOURCE.toString(), example.toString());
            Check.same("the example compiles", code, 0);
            if (code == 0) {
                sameWords("the example", printedBy(folder), block(page, "text"));
            }
        } finally {
            remove(folder);
        }
    }

    /** The first block of the page with this sign. */
    private static String block(String page, String sign) {
        String[] behind = page.split("\n```" + sign + "\n", 2);
        Check.same("the page has a block of " + sign, behind.length, 2);
        return behind.length < 2 ? "" : behind[1].split("```", 2)[0];
    }

    private static String printedBy(Path folder) throws Exception {
        PrintStream usual = System.out;
        ByteArrayOutputStream printed = new ByteArrayOutputStream();
        URL[] where = {folder.toUri().toURL()};
        // Without a parent, so that nothing but what was compiled just now is run.
        try (URLClassLoader loader =
                new URLClassLoader(where, ClassLoader.getPlatformClassLoader())) {
            System.setOut(new PrintStream(printed, true));
            loader.loadClass("Example").getMethod("main", String[].class)
                    .invoke(null, (Object) new String[0]);
        } finally {
            System.setOut(usual);
        }
        return printed.toString().replace("\r\n", "\n");
    }

    private static void remove(Path folder) throws IOException {
        try (DirectoryStream<Path> files = Files.newDirectoryStream(folder)) {
            for (Path file : files) {
                Files.delete(file);
            }
        }
        Files.delete(folder);
    }

    // the calls

    /** A promise's heading, its call, what it does, its parameters, "Returns" and "Throws". */
    private static void eachPromiseStandsThere(String page) throws IOException {
        String document = Files.readString(DOCUMENT).split("\n## Not promised", 2)[0];
        String[] promises = document.split("\n## Promise \\d+: [^\n]*\n");
        Check.same("promises of the document", promises.length - 1, PROMISES);
        for (int number = 1; number < promises.length; number++) {
            String promise = promises[number].strip();
            String call = promise.split("`")[1].split(" throws ")[0];
            sameWords("promise " + number, entryOf(page, call), entryDue(promise, call));
        }
    }

    /** From its line to the next one of the list, or to a heading. */
    private static String entryOf(String page, String call) {
        StringBuilder joined = new StringBuilder();
        for (String line : page.split("\n")) {
            boolean isNew = line.startsWith("- ") || line.startsWith("#");
            joined.append(isNew ? '\n' : ' ').append(line.strip());
        }
        for (String entry : joined.toString().split("\n")) {
            if (entry.startsWith("- `" + call + "`:")) {
                return entry.strip();
            }
        }
        return "";
    }

    private static String entryDue(String promise, String call) {
        List<String> does = new ArrayList<>();
        List<String> parameters = new ArrayList<>();
        List<String> refuses = new ArrayList<>();
        String returns = null;
        String body = promise.substring(promise.indexOf("`: ") + 3);
        for (String line : body.split("\n")) {
            if (line.startsWith("- `")) {
                parameters.add(line.substring(2));
            } else if (line.startsWith("Throws ")) {
                refuses.add(line.substring(7));
            } else if (line.startsWith("Returns ")) {
                returns = line;
            } else if (!line.isBlank()) {
                does.add(line);
            }
        }
        List<String> due = new ArrayList<>(does);
        if (!parameters.isEmpty()) {
            due.add(String.join("; ", parameters) + ".");
        }
        if (returns != null) {
            due.add(returns);
        }
        if (!refuses.isEmpty()) {
            due.add("Throws " + String.join("; ", refuses) + ".");
        }
        return "- `" + call + "`: " + String.join(" ", due);
    }

    // the tests

    private static void eachTestIsNamed(String page) throws IOException {
        try (DirectoryStream<Path> files = Files.newDirectoryStream(TESTS, "*Test.java")) {
            for (Path file : files) {
                String name = file.getFileName().toString().replace(".java", "");
                Check.same("the page names " + name, page.contains("`" + name + "`"), true);
            }
        }
    }

    private static void sameWords(String what, String got, String due) {
        Check.same(what + ": \"" + got + "\" stands there, due is \"" + due + "\", the same",
                Arrays.asList(got.split("\\s+")).equals(Arrays.asList(due.split("\\s+"))), true);
    }
}
