import java.io.IOException;
import java.net.URL;
import java.net.URLClassLoader;
import java.nio.file.Files;
import java.nio.file.Path;
import java.util.ArrayList;
import java.util.Comparator;
import java.util.List;
import java.util.regex.Matcher;
import java.util.regex.Pattern;
import java.util.stream.Stream;
import javax.tools.ToolProvider;

/** What README.md shows as a use of the class: its Java is compiled as it stands, and each answer is so. */
final class ReadmeTest {
    private static final Check CHECK = new Check("ReadmeTest");
    private static final Pattern BLOCK = Pattern.compile("(?s)```java\n(.*?)```");
    private static final Pattern ANSWERED =
        Pattern.compile("(hens\\.(\\w+)\\([^/]*\\)); +// (-?\\d+): .*");
    private static final Pattern CALL = Pattern.compile("hens\\.(\\w+)\\(");
    private static final String[] FACE = {
        "feed", "farm", "nest", "set", "look", "night", "tonight", "likely", "plan", "each", "shut", "lead", "row",
        "ways", "soon", "settle", "without", "put", "been", "judge", "seeds", "clear", "image", "restore", "count"};

    private final List<String> calls = new ArrayList<>();
    private final List<String> names = new ArrayList<>();
    private final List<Long> wanted = new ArrayList<>();
    private final StringBuilder body = new StringBuilder();

    public static void main(String[] args) throws Exception {
        String page = Files.readString(Path.of("README.md"));
        ReadmeTest readme = new ReadmeTest();
        readme.take(page);
        readme.compareAnswers();
        for (String name : FACE) {
            CHECK.due("README.md shows " + name + " and its answer", readme.names.contains(name) ? 1 : 0, 1);
        }
        everyTestIsNamed(page);
        CHECK.finish();
    }

    private void take(String page) {
        Matcher block = BLOCK.matcher(page);
        while (block.find()) {
            block.group(1).lines().forEach(this::takeLine);
        }
    }

    /** A call with its answer is kept for comparing; all else goes on as it stands, but no call goes unanswered. */
    private void takeLine(String line) {
        Matcher answered = ANSWERED.matcher(line);
        if (answered.matches()) {
            body.append("got[").append(calls.size()).append("] = ").append(answered.group(1)).append(";\n");
            calls.add(answered.group(1));
            names.add(answered.group(2));
            wanted.add(Long.valueOf(answered.group(3)));
            return;
        }
        body.append(line).append('\n');
        Matcher call = CALL.matcher(line);
        boolean bare = call.find() && !line.startsWith(" ");
        CHECK.due("README.md shows a call without its answer: " + line, bare ? 1 : 0, 0);
    }

    private void compareAnswers() throws Exception {
        long[] got = answers();
        for (int i = 0; i < calls.size(); i++) {
            CHECK.due("README.md: " + calls.get(i), got[i], wanted.get(i));
        }
    }

    private long[] answers() throws Exception {
        Path folder = Files.createTempDirectory("readme");
        try {
            Path file = folder.resolve("ReadmeUse.java");
            Files.writeString(file, "public final class ReadmeUse {\npublic static long[] answers() {\nlong[] got = new long["
                + calls.size() + "];\n" + body + "return got;\n}\n}\n");
            String classes = System.getProperty("java.class.path");
            int code = ToolProvider.getSystemJavaCompiler().run(null, null, null,
                "--release", "17", "-cp", classes, "-d", folder.toString(), file.toString());
            CHECK.due("the Java of README.md compiles", code, 0);
            if (code != 0) {
                return new long[calls.size()];
            }
            try (URLClassLoader loader = new URLClassLoader(new URL[] {folder.toUri().toURL()})) {
                return (long[]) loader.loadClass("ReadmeUse").getMethod("answers").invoke(null);
            }
        } finally {
            remove(folder);
        }
    }

    private static void remove(Path folder) throws IOException {
        try (Stream<Path> all = Files.walk(folder)) {
            for (Path path : all.sorted(Comparator.reverseOrder()).toList()) {
                Files.delete(path);
            }
        }
    }

    /** The page names each test that there is, and none that is not there. */
    private static void everyTestIsNamed(String page) throws IOException {
        Path tests = Path.of("src/test/java");
        try (Stream<Path> all = Files.list(tests)) {
            for (Path path : all.sorted().toList()) {
                String name = path.getFileName().toString().replace(".java", "");
                boolean named = !name.endsWith("Test") || page.contains("`" + name + "`");
                CHECK.due("README.md names " + name, named ? 1 : 0, 1);
            }
        }
        Matcher name = Pattern.compile("`(\\w+Test)`").matcher(page);
        while (name.find()) {
            boolean there = Files.exists(tests.resolve(name.group(1) + ".java"));
            CHECK.due("README.md names " + name.group(1) + ", which is there", there ? 1 : 0, 1);
        }
    }
}
