import java.io.File;
import java.nio.file.Files;
import java.nio.file.Path;
import java.util.ArrayList;
import java.util.List;
import java.util.regex.Matcher;
import java.util.regex.Pattern;
import javax.tools.ToolProvider;

/** README.md: its code compiles, and each call answers what stands behind it. */
public final class ReadmeTest {
    private static final Pattern CALL = Pattern.compile("x\\.(\\w+\\(.*\\)); +// (-?\\d+)(?::.*|,.*)?");
    private static final Path OUT = Path.of("build/readme");

    public static void main(String[] args) throws Exception {
        Due due = new Due("ReadmeTest");
        List<String> blocks = blocks(Files.readString(Path.of("README.md")));
        due.is("blocks of code in README.md", blocks.size(), 2);
        if (blocks.size() == 2) {
            Path file = OUT.resolve("Readme.java");
            Files.createDirectories(OUT);
            Files.writeString(file, program(blocks.get(0), blocks.get(1), due));
            String own = System.getProperty("java.class.path");
            int failed = ToolProvider.getSystemJavaCompiler().run(null, null, null, "-cp", own, "-d", OUT.toString(), file.toString());
            due.is("README.md compiles", failed, 0);
            due.is("its calls answer as it says", failed == 0 ? ranFine(own) : 1, 0);
        }
        due.end();
    }

    private static List<String> blocks(String page) {
        List<String> blocks = new ArrayList<>();
        Matcher m = Pattern.compile("```java\\n(.*?)```", Pattern.DOTALL).matcher(page);
        while (m.find()) {
            blocks.add(m.group(1));
        }
        return blocks;
    }

    /** Every row of the first block that begins with a call on x must tell its answer. */
    private static String program(String calls, String helper, Due due) {
        StringBuilder body = new StringBuilder();
        for (String row : calls.split("\\n")) {
            Matcher m = CALL.matcher(row);
            if (m.matches()) {
                String call = m.group(1);
                body.append("due.is(\"").append(call).append("\", x.").append(call).append(", ").append(m.group(2)).append(");\n");
            } else {
                due.is("an answer in the row [" + row + "]", row.startsWith("x.") ? 1 : 0, 0);
                body.append(row).append('\n');
            }
        }
        return "public class Readme {\n" + helper + "public static void main(String[] args) {\n"
            + "Due due = new Due(\"README.md\");\n" + body + "due.end();\n}\n}\n";
    }

    private static int ranFine(String own) throws Exception {
        String machine = Path.of(System.getProperty("java.home"), "bin", "java").toString();
        return new ProcessBuilder(machine, "-cp", own + File.pathSeparator + OUT, "Readme").inheritIO().start().waitFor();
    }
}
