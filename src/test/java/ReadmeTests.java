import java.io.IOException;
import java.lang.reflect.Method;
import java.lang.reflect.Modifier;
import java.net.URL;
import java.net.URLClassLoader;
import java.nio.file.Files;
import java.nio.file.Path;
import java.util.ArrayList;
import java.util.List;
import java.util.regex.Matcher;
import java.util.regex.Pattern;
import java.util.stream.Stream;

/** README.md: its examples answer what it says, and it leaves out no call of the face and no test. */
final class ReadmeTests {

    private static final Pattern EXAMPLE = Pattern.compile("(?s)```java\n(.*?)```");
    private static final Pattern TOLD_CALL = Pattern.compile("(maps\\.\\w+\\([^;]*\\));\\s*// (-?\\d+):.*");

    private static final Due DUE = new Due("ReadmeTests");

    public static void main(String[] args) throws Exception {
        String readme = Files.readString(Path.of("README.md"));
        examples(readme);
        allCalls(readme);
        allTests(readme);
        DUE.end();
    }

    private static void examples(String readme) throws Exception {
        List<String> calls = new ArrayList<>();
        List<Long> told = new ArrayList<>();
        StringBuilder body = new StringBuilder();
        Matcher example = EXAMPLE.matcher(readme);
        while (example.find()) {
            for (String line : example.group(1).split("\n")) {
                Matcher call = TOLD_CALL.matcher(line);
                if (call.matches()) {
                    calls.add(call.group(1));
                    told.add(Long.parseLong(call.group(2)));
                    body.append("answers.add((long) ").append(call.group(1)).append(");\n");
                } else {
                    DUE.holds("README.md tells the answer as // number: " + line, !line.contains("//"));
                    body.append(line).append('\n');
                }
            }
        }
        DUE.holds("README.md has examples", !calls.isEmpty());
        List<?> answers = answersOf(body.toString());
        DUE.sameLong("answers of README.md's calls", answers.size(), calls.size());
        for (int i = 0; i < Math.min(answers.size(), calls.size()); i++) {
            DUE.sameLong("README.md: " + calls.get(i), (Long) answers.get(i), told.get(i));
        }
    }

    private static List<?> answersOf(String body) throws Exception {
        Path folder = Files.createTempDirectory("readme");
        try {
            Path source = folder.resolve("ReadmeExample.java");
            Files.writeString(source, "public final class ReadmeExample {\n"
                    + "public static java.util.List<Long> answers() {\n"
                    + "java.util.List<Long> answers = new java.util.ArrayList<>();\n" + body + "return answers;\n}\n}\n");
            int compiled = new ProcessBuilder("javac", "-cp", System.getProperty("java.class.path"), "-d",
                    folder.toString(), source.toString()).inheritIO().start().waitFor();
            DUE.sameLong("README.md's examples compile", compiled, 0);
            if (compiled != 0) {
                return List.of();
            }
            try (URLClassLoader loader = new URLClassLoader(new URL[] {folder.toUri().toURL()})) {
                return (List<?>) loader.loadClass("ReadmeExample").getMethod("answers").invoke(null);
            }
        } finally {
            remove(folder);
        }
    }

    private static void remove(Path folder) throws IOException {
        try (Stream<Path> files = Files.list(folder)) {
            for (Path file : files.toList()) {
                Files.delete(file);
            }
        }
        Files.delete(folder);
    }

    private static void allCalls(String readme) {
        for (Method method : CreaseMaps.class.getDeclaredMethods()) {
            if (Modifier.isPublic(method.getModifiers())) {
                DUE.holds("README.md tells of " + method.getName(), readme.contains("\n| `" + method.getName() + "("));
            }
        }
    }

    private static void allTests(String readme) throws IOException {
        try (Stream<Path> files = Files.list(Path.of("src/test/java"))) {
            for (Path file : files.toList()) {
                String name = file.getFileName().toString().replace(".java", "");
                DUE.holds("README.md tells of " + name, readme.contains("`" + name + "`"));
            }
        }
    }
}
