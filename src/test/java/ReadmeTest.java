import java.io.IOException;
import java.lang.invoke.MethodHandles;
import java.nio.file.Files;
import java.nio.file.Path;
import java.util.ArrayList;
import java.util.Comparator;
import java.util.List;
import java.util.regex.Matcher;
import java.util.regex.Pattern;
import java.util.stream.Stream;
import javax.tools.JavaCompiler;
import javax.tools.ToolProvider;

/**
 * What README.md says of its pieces of code is so: they become a class of their own, with a question
 * for each line that tells an answer.
 */
final class ReadmeTest {
    private static final String NAME = "ReadmePieces";
    private static final Pattern LINE = Pattern.compile(
        "\\s*(?:int (\\w+) = )?(.*);\\s+// (-?\\d+|true|false)(?:, row((?: -?\\d+)+))?");

    private final StringBuilder members = new StringBuilder();
    private final StringBuilder steps = new StringBuilder();
    private int told = 0;

    private ReadmeTest() {
    }

    public static void main(String[] args) throws IOException, ReflectiveOperationException {
        ReadmeTest test = new ReadmeTest();
        test.read(Files.readAllLines(Path.of("README.md")));
        Path place = Files.createTempDirectory("readme");
        try {
            test.run(place);
        } finally {
            remove(place);
        }
        Due.is("lines of README.md that tell an answer", true, test.told > 40);
        Due.end("ReadmeTest");
    }

    private void read(List<String> lines) {
        List<String> piece = null;
        for (String line : lines) {
            if (line.equals("```java")) {
                piece = new ArrayList<>();
            } else if (line.startsWith("```")) {
                take(piece);
                piece = null;
            } else if (piece != null) {
                piece.add(line);
            }
        }
    }

    private void take(List<String> piece) {
        if (piece.get(0).startsWith("static ")) {
            members.append(String.join("\n", piece)).append('\n');
            return;
        }
        for (String line : piece) {
            Matcher told = LINE.matcher(line);
            steps.append(told.matches() ? question(told) : line).append('\n');
        }
    }

    private String question(Matcher line) {
        told++;
        String call = line.group(2);
        String declared = line.group(1) == null ? "" : "int " + line.group(1) + " = " + call + "; ";
        String asked = line.group(1) == null ? call : line.group(1);
        String what = "\"README.md: " + call.replace("\"", "'") + "\"";
        String row = line.group(4) == null ? ""
            : " Due.row(" + what + ", x, " + String.join(", ", line.group(4).trim().split(" ")) + ");";
        return declared + "Due.is(" + what + ", " + line.group(3) + ", " + asked + ");" + row;
    }

    private void run(Path place) throws IOException, ReflectiveOperationException {
        Path file = place.resolve(NAME + ".java");
        Files.writeString(file, "public final class " + NAME + " {\n" + members
            + "public static void run() {\n" + steps + "}\n}\n");
        JavaCompiler compiler = ToolProvider.getSystemJavaCompiler();
        String classes = System.getProperty("java.class.path");
        int failed = compiler.run(null, System.out, System.out, "-cp", classes, "-d", place.toString(),
            file.toString());
        Due.is("the pieces of README.md compile", 0, failed);
        if (failed == 0) {
            byte[] code = Files.readAllBytes(place.resolve(NAME + ".class"));
            // beside this class, so that it may use Due
            MethodHandles.lookup().defineClass(code).getMethod("run").invoke(null);
        }
    }

    private static void remove(Path place) throws IOException {
        try (Stream<Path> all = Files.walk(place)) {
            for (Path one : all.sorted(Comparator.reverseOrder()).toList()) {
                Files.delete(one);
            }
        }
    }
}
