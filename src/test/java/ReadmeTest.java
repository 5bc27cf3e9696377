import java.io.IOException;
import java.io.UncheckedIOException;
import java.lang.ProcessBuilder.Redirect;
import java.lang.reflect.Method;
import java.nio.file.Files;
import java.nio.file.Path;
import java.util.ArrayList;
import java.util.List;
import java.util.TreeSet;
import java.util.regex.Matcher;
import java.util.regex.Pattern;
import java.util.stream.Stream;

/** README.md: what it shows is so when it is tried. */
public final class ReadmeTest {
    private static final Path SOURCES = Path.of("src");
    private static final Path TESTS = Path.of("src/test/java");
    private static final Pattern CLASS_NAME = Pattern.compile("public class (\\w+)");
    private static final Pattern CALL_ROW = Pattern.compile("\\| `(\\w+ \\w+\\(.*?\\))` \\| .* \\|(.*)\\|");
    private static final Pattern TEST_ROW = Pattern.compile("\\| `(\\w+)` \\| [^|]* \\|");
    private static final Pattern NAMED_EXCEPTION = Pattern.compile("`(\\w+Exception)`");

    /** A block of the page between ``` and ```, with the word behind the first of them. */
    private record Block(String kind, String text) {
    }

    private interface Body {
        void make() throws IOException, InterruptedException;
    }

    public static void main(String[] args) {
        test("each program prints what is shown below it", ReadmeTest::programs);
        test("one test is run alone as it is told", ReadmeTest::oneTest);
        test("the tests are run as it is told", ReadmeTest::allTests);
        test("its tables list each call with its types and exceptions", ReadmeTest::calls);
        test("its tables list each test", ReadmeTest::testFiles);
        test("the form of a command text is that of the document", ReadmeTest::form);
        Check.end();
    }

    private static void test(String name, Body body) {
        Check.test("README.md: " + name, () -> {
            try {
                body.make();
            } catch (IOException e) {
                throw new UncheckedIOException(e);
            } catch (InterruptedException e) {
                throw new IllegalStateException(e);
            }
        });
    }

    private static void programs() throws IOException, InterruptedException {
        String commands = blocks("sh").get(0).text;
        List<Block> programs = blocks("java");
        List<Block> outputs = blocks("text");
        Check.yes("there are programs", programs.size() > 0);
        Check.same("the number of outputs", outputs.size(), programs.size());
        for (int place = 0; place < Math.min(programs.size(), outputs.size()); place++) {
            String program = programs.get(place).text;
            Matcher name = CLASS_NAME.matcher(program);
            if (name.find()) {
                String its = commands.replace("Example", name.group(1));
                Check.same(name.group(1), printed(its, name.group(1) + ".java", program), outputs.get(place).text);
            } else {
                Check.fail("a program has no class: " + program);
            }
        }
    }

    private static void oneTest() throws IOException, InterruptedException {
        List<Block> commands = blocks("sh");
        String printed = printed(commands.get(commands.size() - 1).text, "", "");
        Check.yes("a test run alone passes: " + printed, printed.matches("\\d+ tests, 0 wrong answers\n"));
    }

    /** The script itself is running now, so it is only looked for. */
    private static void allTests() throws IOException {
        Check.same("the second block of commands", blocks("sh").get(1).text, ".ci/run\n");
        Check.yes(".ci/run is there", Files.isRegularFile(Path.of(".ci/run")));
    }

    private static void calls() throws IOException {
        List<String> listed = new ArrayList<>();
        for (String line : lines()) {
            Matcher row = CALL_ROW.matcher(line);
            if (row.matches()) {
                String signature = row.group(1).replaceAll("(int|char) \\w+([,)])", "$1$2").replace(", ", ",");
                listed.add(signature + exceptionsIn(row.group(2)));
            }
        }
        compare("call", listed, faceOfTheClass());
    }

    private static String exceptionsIn(String cell) {
        StringBuilder names = new StringBuilder();
        Matcher name = NAMED_EXCEPTION.matcher(cell);
        while (name.find()) {
            names.append(' ').append(name.group(1));
        }
        return names.toString();
    }

    private static List<String> faceOfTheClass() {
        List<String> face = new ArrayList<>();
        for (Method method : KiteTailRental.class.getMethods()) {
            if (method.getDeclaringClass() == KiteTailRental.class) {
                StringBuilder call = new StringBuilder();
                call.append(method.getReturnType().getSimpleName()).append(' ').append(method.getName());
                String parameters = "";
                for (Class<?> type : method.getParameterTypes()) {
                    parameters += (parameters.isEmpty() ? "" : ",") + type.getSimpleName();
                }
                call.append('(').append(parameters).append(')');
                for (Class<?> exception : method.getExceptionTypes()) {
                    call.append(' ').append(exception.getSimpleName());
                }
                face.add(call.toString());
            }
        }
        return face;
    }

    private static void testFiles() throws IOException {
        List<String> listed = new ArrayList<>();
        for (String line : lines()) {
            Matcher row = TEST_ROW.matcher(line);
            if (row.matches()) {
                listed.add(row.group(1));
            }
        }
        List<String> files = new ArrayList<>();
        try (Stream<Path> paths = Files.list(TESTS)) {
            for (Path path : paths.toList()) {
                String name = path.getFileName().toString();
                if (name.endsWith("Test.java") || name.endsWith("Bounds.java")) {
                    files.add(name.replace(".java", ""));
                }
            }
        }
        compare("test", listed, files);
    }

    private static void form() throws IOException {
        if (!Document.isHere()) {
            System.out.println("the document is not here: the form is not compared with it");
            return;
        }
        List<Block> forms = blocks("");
        Check.same("the number of forms", forms.size(), 1);
        Check.yes("the document has this form", Document.text().contains("\n" + forms.get(0).text));
    }

    private static void compare(String what, List<String> listed, List<String> due) {
        TreeSet<String> strange = new TreeSet<>(listed);
        TreeSet<String> missing = new TreeSet<>(due);
        strange.removeAll(due);
        missing.removeAll(listed);
        Check.same("each " + what + " that is listed and is none", strange.toString(), "[]");
        Check.same("each " + what + " that is not listed", missing.toString(), "[]");
        Check.same("the number of rows", listed.size(), due.size());
    }

    private static List<String> lines() throws IOException {
        return Files.readAllLines(Path.of("README.md"));
    }

    private static List<Block> blocks(String kind) throws IOException {
        List<Block> blocks = new ArrayList<>();
        Matcher block = Pattern.compile("(?ms)^```(\\w*)\n(.*?)^```$").matcher(Files.readString(Path.of("README.md")));
        while (block.find()) {
            if (block.group(1).equals(kind)) {
                blocks.add(new Block(kind, block.group(2)));
            }
        }
        return blocks;
    }

    /** What commands print in a directory that has the sources and one file more. */
    private static String printed(String commands, String name, String content)
            throws IOException, InterruptedException {
        Path place = Files.createTempDirectory("readme");
        try {
            copySources(place);
            if (!name.isEmpty()) {
                Files.writeString(place.resolve(name), content);
            }
            Process process = new ProcessBuilder("sh", "-e", "-c", commands).directory(place.toFile())
                    .redirectError(Redirect.INHERIT).start();
            process.getOutputStream().close();
            String output = new String(process.getInputStream().readAllBytes());
            Check.same("the exit code of " + commands, process.waitFor(), 0);
            return output;
        } finally {
            delete(place);
        }
    }

    private static void copySources(Path place) throws IOException {
        try (Stream<Path> paths = Files.walk(SOURCES)) {
            for (Path path : paths.toList()) {
                Files.copy(path, place.resolve(path.toString()));
            }
        }
    }

    private static void delete(Path place) throws IOException {
        try (Stream<Path> paths = Files.walk(place)) {
            List<Path> parts = paths.toList();
            for (int part = parts.size() - 1; part >= 0; part--) {
                Files.delete(parts.get(part));
            }
        }
    }
}
