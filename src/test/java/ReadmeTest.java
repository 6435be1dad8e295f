import java.nio.file.Files;
import java.nio.file.Path;
import java.util.ArrayList;
import java.util.List;
import java.util.regex.Matcher;
import java.util.regex.Pattern;
import javax.tools.ToolProvider;

/** The code of README.md compiles, and each call answers the number that stands behind it. */
public final class ReadmeTest {
    private static final Pattern BLOCK = Pattern.compile("(?s)```java\n(.*?)```");
    private static final Pattern ANSWER = Pattern.compile("(?m)^(x\\.\\w+\\(.*\\)); +// (-?\\d+)(:.*)?$");

    /** The page's first block is a function; its second one has calls, each with its answer. */
    private static String program(String page) {
        List<String> blocks = new ArrayList<>();
        Matcher m = BLOCK.matcher(page);
        while (m.find()) {
            blocks.add(m.group(1));
        }
        if (blocks.size() != 2) {
            throw new IllegalStateException("README.md has " + blocks.size() + " blocks of Java, not 2");
        }
        String calls = ANSWER.matcher(blocks.get(1)).replaceAll("due.is(\"$1\", $1, $2L);");
        if (calls.contains("//")) {
            throw new IllegalStateException("README.md has a remark that tells no answer:\n" + calls);
        }
        return "import java.nio.ByteBuffer;\nimport java.nio.charset.StandardCharsets;\nimport java.util.Arrays;\n"
            + "public final class ReadmeExample {\n" + blocks.get(0)
            + "public static void main(String[] args) {\nDue due = new Due();\n" + calls + "due.close(\"readme\");\n}\n}\n";
    }

    /** Compiles beside this class, so that the example is found as this class was. */
    private static boolean compiles(String program) throws Exception {
        String classes = System.getProperty("java.class.path");
        Path source = Path.of(classes, "ReadmeExample.java");
        Files.writeString(source, program);
        return ToolProvider.getSystemJavaCompiler().run(null, null, null,
            "-cp", classes, "-sourcepath", "src/test/java", "-d", classes, source.toString()) == 0;
    }

    public static void main(String[] args) throws Exception {
        if (!compiles(program(Files.readString(Path.of("README.md"))))) {
            System.out.println("readme: its code does not compile");
            System.exit(1);
        }
        Class.forName("ReadmeExample").getMethod("main", String[].class).invoke(null, (Object) args);
    }
}
