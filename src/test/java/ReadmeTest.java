import java.io.IOException;
import java.io.UncheckedIOException;
import java.net.URL;
import java.net.URLClassLoader;
import java.nio.file.Files;
import java.nio.file.Path;
import java.util.ArrayList;
import java.util.Comparator;
import java.util.List;
import java.util.regex.Matcher;
import java.util.regex.Pattern;
import java.util.stream.Stream;
import javax.tools.ToolProvider;

/** README.md (its path is the third argument) tells how to use the class and how to run its tests, and tells it right. */
final class ReadmeTest {
    private static final Pattern EXAMPLE = Pattern.compile("(?s)```java\n(.*?)```");
    /** A line of the example that tells the answer of its call. */
    private static final Pattern TOLD = Pattern.compile("int (\\w+) = ring\\..*; +// (-?\\d+): .*");

    private ReadmeTest() {
    }

    public static void main(String[] args) throws Exception {
        String readme = Files.readString(Path.of(args[2]));
        callsAreTold(readme);
        testsAreTold(readme, Path.of("src/test/java"));
        Matcher example = EXAMPLE.matcher(readme);
        boolean found = example.find();
        Check.isTrue("there is an example", found);
        if (found) {
            exampleHolds(example.group(1));
        }
        Check.end();
    }

    private static void callsAreTold(String readme) {
        Stream.of(RingThreads.class.getDeclaredMethods()).filter(call -> call.toString().startsWith("public "))
            .forEach(call -> Check.isTrue(call + " is told", readme.contains("`" + call.getName() + "`")));
    }

    private static void testsAreTold(String readme, Path tests) throws IOException {
        try (Stream<Path> files = Files.list(tests)) {
            files.map(file -> file.getFileName().toString()).filter(name -> name.endsWith("Test.java"))
                .map(name -> name.replace(".java", ""))
                .forEach(name -> Check.isTrue(name + " is told", readme.contains("`" + name + "`")));
        }
    }

    private static void exampleHolds(String example) throws Exception {
        List<String> names = new ArrayList<>();
        List<Long> due = new ArrayList<>();
        for (String line : example.split("\n")) {
            Matcher told = TOLD.matcher(line);
            if (told.matches()) {
                names.add(told.group(1));
                due.add(Long.valueOf(told.group(2)));
            }
        }
        Check.isTrue("the example tells answers", !names.isEmpty());
        long[] got = answers(example, names);
        for (int i = 0; i < names.size(); i++) {
            Check.equal("the example's " + names.get(i), due.get(i), Long.valueOf(got[i]));
        }
    }

    private static long[] answers(String example, List<String> names) throws Exception {
        Path room = Files.createTempDirectory("readme");
        try {
            Path file = room.resolve("Example.java");
            Files.writeString(file, "public final class Example {\npublic static long[] answers() {\n" + example
                + "return new long[] {" + String.join(", ", names) + "};\n}\n}\n");
            int code = ToolProvider.getSystemJavaCompiler().run(null, null, null, "-cp",
                System.getProperty("java.class.path"), "-d", room.toString(), file.toString());
            Check.equal("the example compiles: the exit code", 0, code);
            return code == 0 ? called(room) : new long[names.size()];
        } finally {
            remove(room);
        }
    }

    private static long[] called(Path room) throws Exception {
        try (URLClassLoader loader = new URLClassLoader(new URL[] {room.toUri().toURL()})) {
            return (long[]) loader.loadClass("Example").getMethod("answers").invoke(null);
        }
    }

    private static void remove(Path room) throws IOException {
        try (Stream<Path> files = Files.walk(room)) {
            files.sorted(Comparator.reverseOrder()).forEach(file -> {
                try {
                    Files.delete(file);
                } catch (IOException e) {
                    throw new UncheckedIOException(e);
                }
            });
        }
    }
}
