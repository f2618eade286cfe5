import java.io.IOException;
import java.lang.reflect.Method;
import java.lang.reflect.Modifier;
import java.net.URL;
import java.net.URLClassLoader;
import java.nio.file.DirectoryStream;
import java.nio.file.Files;
import java.nio.file.Path;
import java.util.ArrayList;
import java.util.List;
import java.util.regex.Matcher;
import java.util.regex.Pattern;

/**
 * README.md: its pieces of Java are compiled and run as they stand there, and each call must answer
 * what is said behind it; every call of the face and every test of the project must be named.
 */
public final class ReadmeTest {
    private static final Check check = new Check();
    private static final Pattern CALL = Pattern.compile("(x\\.\\w+\\(.*\\)); *// (true|false|NONE|BAD|FULL|-?\\d+)(:.*)?");

    public static void main(String[] args) throws Exception {
        String readme = Files.readString(Path.of("README.md"));
        List<List<String>> pieces = pieces(readme);
        runs(pieces);
        namesEveryCall(pieces);
        namesEveryTest(readme);
        check.end();
    }

    /** The lines of each piece of Java. */
    private static List<List<String>> pieces(String readme) {
        List<List<String>> pieces = new ArrayList<>();
        List<String> open = null;
        for (String line : readme.split("\n")) {
            if (line.equals("```java")) {
                open = new ArrayList<>();
                pieces.add(open);
            } else if (line.equals("```")) {
                open = null;
            } else if (open != null) {
                open.add(line);
            }
        }
        return pieces;
    }

    private static void runs(List<List<String>> pieces) throws Exception {
        Path folder = Files.createTempDirectory("readme");
        Path source = folder.resolve("ReadmeCalls.java");
        Files.writeString(source, program(pieces));
        int errors = new ProcessBuilder("javac", "-encoding", "UTF-8", "-cp", System.getProperty("java.class.path"),
                "-d", folder.toString(), source.toString()).inheritIO().start().waitFor();
        check.same("compiling what README.md shows", errors, 0);
        if (errors == 0) {
            List<String> answers = new ArrayList<>();
            try (URLClassLoader loader = new URLClassLoader(new URL[] {folder.toUri().toURL()})) {
                loader.loadClass("ReadmeCalls").getMethod("run", List.class).invoke(null, answers);
            }
            compare(calls(pieces), answers);
        }
        delete(folder);
    }

    /** A piece that begins with a method is one beside the others, which are bodies. */
    private static String program(List<List<String>> pieces) {
        StringBuilder methods = new StringBuilder();
        StringBuilder bodies = new StringBuilder();
        for (List<String> piece : pieces) {
            if (piece.get(0).startsWith("static ")) {
                methods.append(String.join("\n", piece)).append('\n');
            } else {
                bodies.append("{\n");
                for (String line : piece) {
                    bodies.append(noting(line)).append('\n');
                }
                bodies.append("}\n");
            }
        }
        return "public final class ReadmeCalls {\n" + methods
                + "public static void run(java.util.List<String> answers) {\n" + bodies + "}\n}\n";
    }

    private static String noting(String line) {
        Matcher call = CALL.matcher(line);
        return call.matches() ? "answers.add(String.valueOf(" + call.group(1) + "));" : line;
    }

    /** All calls that are shown, each with its answer; one without an answer is not as due. */
    private static List<String[]> calls(List<List<String>> pieces) {
        List<String[]> calls = new ArrayList<>();
        for (List<String> piece : pieces) {
            for (String line : piece) {
                Matcher call = CALL.matcher(line);
                if (call.matches()) {
                    calls.add(new String[] {call.group(1), number(call.group(2))});
                } else {
                    check.no("an answer behind " + line, line.startsWith("x."));
                }
            }
        }
        return calls;
    }

    private static String number(String answer) {
        switch (answer) {
            case "NONE": return String.valueOf(PermitSets.NONE);
            case "BAD": return String.valueOf(PermitSets.BAD);
            case "FULL": return String.valueOf(PermitSets.FULL);
            default: return answer;
        }
    }

    private static void compare(List<String[]> calls, List<String> answers) {
        check.same("calls made", answers.size(), calls.size());
        for (int i = 0; i < Math.min(calls.size(), answers.size()); i++) {
            check.same("README.md: " + calls.get(i)[0], answers.get(i), calls.get(i)[1]);
        }
    }

    private static void namesEveryCall(List<List<String>> pieces) {
        String shown = String.valueOf(pieces);
        for (Method method : PermitSets.class.getDeclaredMethods()) {
            if (Modifier.isPublic(method.getModifiers())) {
                check.yes("README.md shows " + method.getName(), shown.contains("x." + method.getName() + "("));
            }
        }
    }

    private static void namesEveryTest(String readme) throws IOException {
        check.yes("README.md says how tests are run", readme.contains("\n.ci/run\n"));
        try (DirectoryStream<Path> tests = Files.newDirectoryStream(Path.of("src/test/java"), "*Test.java")) {
            for (Path test : tests) {
                String name = test.getFileName().toString().replace(".java", "");
                check.yes("README.md names " + name, readme.contains("`" + name + "`"));
            }
        }
    }

    private static void delete(Path folder) throws IOException {
        try (DirectoryStream<Path> files = Files.newDirectoryStream(folder)) {
            for (Path file : files) {
                Files.delete(file);
            }
        }
        Files.delete(folder);
    }
}
