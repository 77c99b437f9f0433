import java.io.File;
import java.io.IOException;
import java.lang.reflect.Method;
import java.lang.reflect.Modifier;
import java.nio.file.Files;
import java.nio.file.Path;
import java.util.Set;
import java.util.TreeSet;
import java.util.regex.Matcher;
import java.util.regex.Pattern;

/** README.md: its program prints what stands there, it names every call and test, and each file that it names is. */
public final class ReadmeTest {
    private static final Path WORK = Path.of("build", "readme");

    public static void main(String[] args) throws Exception {
        String readme = Files.readString(Path.of("README.md"));
        program(readme);
        calls(readme);
        files(readme);
        Check.end();
    }

    private static void program(String readme) throws IOException, InterruptedException {
        Files.createDirectories(WORK);
        Path source = WORK.resolve("MyFair.java");
        Files.writeString(source, block(readme, "java"));
        Check.isTrue("the command that compiles", readme.contains(
                "\n    javac -d out src/main/java/SirenFair.java MyFair.java\n    java -cp out MyFair\n"));
        String out = WORK.resolve("out").toString();
        Check.due("javac prints", run("javac", "-d", out, "src/main/java/SirenFair.java", source.toString()), "");
        Check.due("the program prints", run("java", "-cp", out, "MyFair"), block(readme, "text"));
    }

    /** The lines of the first block of a kind. */
    private static String block(String readme, String kind) {
        String begin = "\n```" + kind + "\n";
        int from = readme.indexOf(begin);
        int to = readme.indexOf("\n```\n", from + begin.length());
        return from < 0 || to < 0 ? "there is no block of " + kind : readme.substring(from + begin.length(), to + 1);
    }

    /** What a command prints; how it ends, if not well. */
    private static String run(String... command) throws IOException, InterruptedException {
        File printed = WORK.resolve("printed.txt").toFile();
        int end = new ProcessBuilder(command).redirectErrorStream(true).redirectOutput(printed).start().waitFor();
        String said = Files.readString(printed.toPath()).replace("\r\n", "\n");
        return end == 0 ? said : said + "ended with " + end;
    }

    private static void calls(String readme) {
        for (Method m : SirenFair.class.getDeclaredMethods()) {
            if (Modifier.isPublic(m.getModifiers())) {
                Check.isTrue("README tells of " + m.getName(), readme.contains("`" + m.getName() + "("));
            }
        }
    }

    private static void files(String readme) throws IOException {
        Set<String> named = new TreeSet<>();
        Matcher matcher = Pattern.compile("`((src|test|\\.ci|\\.\\./shared)[^` ]*)`").matcher(readme);
        while (matcher.find()) {
            named.add(matcher.group(1));
            Check.isTrue("there is " + matcher.group(1), Files.exists(Path.of(matcher.group(1))));
        }
        try (var tests = Files.newDirectoryStream(Path.of("test"), "*.java")) {
            for (Path test : tests) {
                String name = "test/" + test.getFileName();
                Check.isTrue("README tells of " + name, named.contains(name));
            }
        }
    }
}
