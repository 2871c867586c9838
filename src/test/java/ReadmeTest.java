import java.io.IOException;
import java.lang.reflect.Method;
import java.lang.reflect.Modifier;
import java.nio.file.Files;
import java.nio.file.Path;
import java.util.ArrayList;
import java.util.List;
import java.util.regex.Matcher;
import java.util.regex.Pattern;
import java.util.stream.Stream;

/** What README.md says of using the class and of running the tests is done here as it is written. */
public final class ReadmeTest {
    private static final Due due = new Due("ReadmeTest");
    private static final Path README = Path.of("README.md");
    private static final Path SOURCE = Path.of("src/main/java/OvenRings.java");
    private static final Path TESTS = Path.of("src/test/java");

    private static String text;

    public static void main(String[] args) throws IOException, InterruptedException {
        text = Files.readString(README);
        exampleIsSo();
        errorsAreSo();
        anyNumberIsSo();
        callsAreNamed();
        partsAreNamed();
        testsAreSo();
        oneTestAloneIsSo();
        due.ends();
    }

    /** The blocks of the page that are fenced as told. */
    private static List<String> blocks(String fence) {
        List<String> all = new ArrayList<>();
        Matcher m = Pattern.compile("(?ms)^```" + fence + "\\n(.*?)^```$").matcher(text);
        while (m.find()) {
            all.add(m.group(1));
        }
        return all;
    }

    private static boolean says(String words) {
        return text.replaceAll("\\s+", " ").contains(words);
    }

    private static void yes(String what, boolean is) {
        due.is(what, is ? 1 : 0, 1);
    }

    /** Runs a block of the page in a folder; tells what it prints, and its exit code in the last line. */
    private static String ran(String block, Path folder) throws IOException, InterruptedException {
        ProcessBuilder shell = new ProcessBuilder("bash", "-e", "-c", block);
        shell.directory(folder.toFile()).redirectErrorStream(true);
        Process process = shell.start();
        process.getOutputStream().close();
        String printed = new String(process.getInputStream().readAllBytes());
        return printed + "exit " + process.waitFor();
    }

    private static void remove(Path folder) throws IOException {
        try (Stream<Path> files = Files.list(folder)) {
            for (Path file : files.toArray(Path[]::new)) {
                Files.delete(file);
            }
        }
        Files.delete(folder);
    }

    private static void exampleIsSo() throws IOException, InterruptedException {
        List<String> programs = blocks("java");
        List<String> prints = blocks("text");
        due.is("programs on the page", programs.size(), 1);
        due.is("what a program prints, on the page", prints.size(), 1);
        due.is("what is run, on the page", blocks("sh").size(), 3);
        yes("the page names the program", says("This is `Evening.java`"));
        Path folder = Files.createTempDirectory("evening");
        Files.copy(SOURCE, folder.resolve("OvenRings.java"));
        Files.writeString(folder.resolve("Evening.java"), programs.get(0));
        String printed = ran(blocks("sh").get(0), folder);
        yes("the program prints what the page says, it printed\n" + printed, printed.equals(prints.get(0) + "exit 0"));
        remove(folder);
    }

    private static void errorsAreSo() {
        int[] answers = {Due.BEYOND, Due.NONE, Due.STATE, Due.FULL, Due.KIND};
        String[] names = {"BEYOND", "NONE", "STATE", "FULL", "KIND"};
        for (int i = 0; i < names.length; i++) {
            yes("the page says what " + names[i] + " is", says(answers[i] + " " + names[i]));
        }
        OvenRings x = new OvenRings();
        x.house(0, 0);
        due.is("BEYOND", x.heat(16, 0), Due.BEYOND);
        due.is("NONE", x.restore(), Due.NONE);
        due.is("STATE", x.sheet(0, 8, -1), Due.STATE);
        due.is("KIND", x.as(0, 1), Due.KIND);
        for (int i = 0; i < 20; i++) {
            x.tell(i);
        }
        due.is("FULL", x.tell(20), Due.FULL);
    }

    private static void anyNumberIsSo() {
        yes("the page says what answers any number", says("Only `seed`, `voice` and `count(10)`"));
        OvenRings x = new OvenRings();
        x.house(0, 0);
        x.seed(Due.BEYOND);
        due.is("count(10)", x.count(10), Due.BEYOND);
        due.is("seed(0)", x.seed(0), Due.BEYOND);
        due.is("voice(0, 0, ..)", x.voice(0, 0, Due.BEYOND), Due.BEYOND);
        due.is("told(1)", x.told(1), 0);
    }

    private static void callsAreNamed() {
        Matcher rows = Pattern.compile("(?m)^\\| (`.*`) \\| .* \\|$").matcher(text);
        List<String> named = new ArrayList<>();
        while (rows.find()) {
            named.addAll(List.of(rows.group(1).replace("`", "").split(" ")));
        }
        int calls = 0;
        for (Method method : OvenRings.class.getDeclaredMethods()) {
            if (Modifier.isPublic(method.getModifiers())) {
                calls++;
                yes("the page names " + method.getName(), named.contains(method.getName()));
            }
        }
        due.is("calls that the page names", named.size(), calls);
    }

    private static void partsAreNamed() {
        String made = text.substring(text.indexOf("## How it is made"), text.indexOf("## Running its tests"));
        List<String> named = new ArrayList<>();
        Matcher m = Pattern.compile("`(\\w+)`").matcher(made);
        while (m.find()) {
            named.add(m.group(1));
        }
        Class<?>[] parts = OvenRings.class.getDeclaredClasses();
        for (Class<?> part : parts) {
            yes("the page tells of " + part.getSimpleName(), named.contains(part.getSimpleName()));
        }
        due.is("parts that the page tells of", named.size(), parts.length);
    }

    private static void testsAreSo() throws IOException {
        due.is("how all tests are run", blocks("sh").get(1).equals("bash .ci/run\n") ? 1 : 0, 1);
        yes(".ci/run can be run", Files.isExecutable(Path.of(".ci/run")));
        String ci = Files.readString(Path.of(".ci/run"));
        yes(".ci/run runs each *Test", ci.contains("src/test/java/*Test.java"));
        yes(".ci/run runs the shared ones", ci.contains("../shared/tests/*.java"));
        Matcher m = Pattern.compile("`(\\w+Test)`").matcher(text);
        while (m.find()) {
            yes("there is " + m.group(1), Files.exists(TESTS.resolve(m.group(1) + ".java")));
        }
        try (Stream<Path> files = Files.list(TESTS)) {
            for (Path file : files.sorted().toArray(Path[]::new)) {
                String name = file.getFileName().toString();
                if (name.matches("\\w*EdgesTest.java|RangesTest.java|RefusedTest.java")) {
                    yes(name + " names sentences", Files.readString(file).contains("new Sentences("));
                }
            }
        }
    }

    private static void oneTestAloneIsSo() throws IOException, InterruptedException {
        String block = blocks("sh").get(2);
        yes("it makes a folder that is named out", block.startsWith("out=$(mktemp -d)\n"));
        String printed = ran(block + "rm -r \"$out\"\n", Path.of("."));
        yes("one test alone runs, it printed\n" + printed, printed.matches("HoursTest: \\d+ asked, 0 wrong\nexit 0"));
    }
}
