import java.io.IOException;
import java.lang.reflect.Method;
import java.lang.reflect.Modifier;
import java.nio.file.Files;
import java.nio.file.Path;
import java.util.regex.Matcher;
import java.util.regex.Pattern;
import javax.tools.ToolProvider;

/** Runs the Java of README.md: a call with a number behind its comment sign must answer that number. */
public final class ReadmeTest {
    private static final Pattern BLOCK = Pattern.compile("(?s)```java\n(.*?)```");
    private static final Pattern ROW = Pattern.compile("(int \\w+ = )?(v\\.[^;]*); +// (-?\\d+)");

    public static void main(String[] args) throws IOException, ReflectiveOperationException {
        String readme = Files.readString(Path.of("README.md"));
        StringBuilder source = new StringBuilder("public final class ReadmeRuns {\n"
            + "static int wrong = 0;\nstatic int tried = 0;\n"
            + "static int due(String call, int got, int want) { tried++; if (got != want) { wrong++;"
            + " System.out.println(call + \" answered \" + got + \", README.md says \" + want); } return got; }\n"
            + "public static int[] run() {\n");
        StringBuilder all = new StringBuilder();
        Matcher block = BLOCK.matcher(readme);
        while (block.find()) {
            all.append(block.group(1));
            source.append("{\n");
            for (String row : block.group(1).split("\n")) {
                source.append(checked(row)).append('\n');
            }
            source.append("}\n");
        }
        source.append("return new int[] {tried, wrong};\n}\n}\n");
        int missing = callsWithoutExample(all.toString());
        int[] told = compileAndRun(source.toString());
        boolean holds = told[0] > 0 && told[1] == 0 && missing == 0;
        System.out.println(holds ? "the " + told[0] + " answers of README.md hold" : "README.md does not hold");
        if (!holds) {
            System.exit(1);
        }
    }

    private static String checked(String row) {
        Matcher it = ROW.matcher(row);
        if (!it.matches()) {
            // A row that seems to tell an answer but can not be tried would hide a wrong one.
            return row.contains("//") ? "wrong++; System.out.println(\"README.md has a row of another form\");" + row : row;
        }
        String head = it.group(1) == null ? "" : it.group(1);
        return head + "due(\"" + it.group(2) + "\", " + it.group(2) + ", " + it.group(3) + ");";
    }

    private static int callsWithoutExample(String examples) {
        int missing = 0;
        for (Method m : VersionVault.class.getDeclaredMethods()) {
            if (Modifier.isPublic(m.getModifiers()) && !examples.contains("v." + m.getName() + "(")) {
                System.out.println("README.md shows no use of " + m.getName());
                missing++;
            }
        }
        return missing;
    }

    /** Compiles beside the test's own classes, where the same loader finds it. */
    private static int[] compileAndRun(String source) throws IOException, ReflectiveOperationException {
        String classes = System.getProperty("java.class.path");
        Path file = Files.writeString(Path.of(classes, "ReadmeRuns.java"), source);
        int code = ToolProvider.getSystemJavaCompiler().run(null, null, null, "-proc:none", "-cp", classes, "-d", classes,
            file.toString());
        if (code != 0) {
            return new int[] {0, 1};
        }
        return (int[]) Class.forName("ReadmeRuns").getMethod("run").invoke(null);
    }
}
