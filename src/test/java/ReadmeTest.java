import java.io.IOException;
import java.lang.reflect.Method;
import java.lang.reflect.Modifier;
import java.nio.file.Files;
import java.nio.file.Path;
import java.util.Comparator;
import java.util.List;
import java.util.Set;
import java.util.TreeSet;
import java.util.regex.Matcher;
import java.util.regex.Pattern;
import java.util.stream.Collectors;
import java.util.stream.Stream;

/** README.md: what it says of the use of the class and of its tests is tried as it stands there. */
final class ReadmeTest {
    private static final Check CHECK = new Check("ReadmeTest");
    private static final Path CLASS = Path.of("src/main/java/BitNumbers.java");
    private static final Path TESTS = Path.of("src/test/java");

    private final String readme;

    private ReadmeTest(String readme) {
        this.readme = readme;
    }

    public static void main(String[] args) throws IOException, InterruptedException {
        ReadmeTest test = new ReadmeTest(Files.readString(Path.of("README.md")));
        test.exampleRuns();
        test.callsAreThoseOfTheFace();
        test.testsAreThere();
        test.commandOfTheTests();
        CHECK.end();
    }

    private void exampleRuns() throws IOException, InterruptedException {
        Path place = Files.createTempDirectory("readme");
        try {
            Files.createDirectories(place.resolve(CLASS).getParent());
            Files.copy(CLASS, place.resolve(CLASS));
            Files.writeString(place.resolve("Example.java"), block("java", 0));
            CHECK.due("what the example prints", printed(place, block("sh", 0)), block("text", 0));
        } finally {
            remove(place);
        }
    }

    private void callsAreThoseOfTheFace() {
        Set<String> told = firstCells("\\b([a-z]+)\\(", "| call |");
        Set<String> face = Stream.of(BitNumbers.class.getDeclaredMethods())
            .filter(method -> Modifier.isPublic(method.getModifiers()))
            .map(Method::getName)
            .collect(Collectors.toCollection(TreeSet::new));
        CHECK.due("the calls that README.md lists", told, face);
    }

    private void testsAreThere() throws IOException {
        Set<String> there;
        try (Stream<Path> files = Files.list(TESTS)) {
            there = files.map(file -> file.getFileName().toString())
                .filter(name -> name.endsWith("Test.java"))
                .map(name -> name.substring(0, name.length() - ".java".length()))
                .collect(Collectors.toCollection(TreeSet::new));
        }
        CHECK.due("the tests that README.md lists", firstCells("`(\\w+Test)`", "| test |"), there);
    }

    private void commandOfTheTests() throws IOException {
        String command = block("sh", 1).strip();
        CHECK.due("the command that runs the tests", command, ".ci/run");
        CHECK.due(command + " is executable", Files.isExecutable(Path.of(command)), true);
    }

    /** The text of the README's block of this kind, counted from 0. */
    private String block(String kind, int place) {
        List<String> blocks = Pattern.compile("(?s)```" + kind + "\n(.*?)```").matcher(readme).results()
            .map(block -> block.group(1))
            .collect(Collectors.toList());
        CHECK.due("there is a block " + place + " of " + kind, place < blocks.size(), true);
        return place < blocks.size() ? blocks.get(place) : "";
    }

    /** What a pattern finds in the first cells of the table that begins so. */
    private Set<String> firstCells(String pattern, String begin) {
        Set<String> found = new TreeSet<>();
        boolean isInside = false;
        for (String line : readme.split("\n")) {
            isInside = line.startsWith(begin) || isInside && line.startsWith("|");
            if (isInside) {
                Matcher matcher = Pattern.compile(pattern).matcher(line.split("\\|")[1]);
                while (matcher.find()) {
                    found.add(matcher.group(1));
                }
            }
        }
        return found;
    }

    private static String printed(Path place, String commands) throws IOException, InterruptedException {
        Process process = new ProcessBuilder("sh", "-e", "-c", commands)
            .directory(place.toFile())
            .redirectError(ProcessBuilder.Redirect.INHERIT)
            .start();
        String printed = new String(process.getInputStream().readAllBytes());
        CHECK.due("the exit code of README.md's commands", process.waitFor(), 0);
        return printed;
    }

    private static void remove(Path place) throws IOException {
        List<Path> inside;
        try (Stream<Path> paths = Files.walk(place)) {
            inside = paths.sorted(Comparator.reverseOrder()).collect(Collectors.toList());
        }
        for (Path path : inside) {
            Files.delete(path);
        }
    }
}
