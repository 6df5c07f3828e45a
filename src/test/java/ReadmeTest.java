import java.io.File;
import java.lang.reflect.Method;
import java.net.URL;
import java.net.URLClassLoader;
import java.nio.file.Files;
import java.nio.file.Path;
import java.util.regex.Matcher;
import java.util.regex.Pattern;
import javax.tools.ToolProvider;

/** The examples of README.md, made into one program: each call has to answer what stands behind it. */
public final class ReadmeTest {
    private static final Pattern BLOCK = Pattern.compile("(?s)```java\n(.*?)```");
    private static final Pattern ASKED = Pattern.compile("(int (\\w+) = )?(.*); // = (-?\\d+).*");

    public static void main(String[] args) throws Exception {
        StringBuilder program = new StringBuilder("public final class Examples {\n"
            + "static int wrong = 0;\nstatic int asked = 0;\n"
            + "static void due(String call, int got, int want) {\nasked++;\nif (got != want) {\nwrong++;\n"
            + "System.out.println(call + \" answered \" + got + \", README.md has \" + want);\n}\n}\n"
            + "public static int run() {\n");
        Matcher block = BLOCK.matcher(Files.readString(Path.of("README.md")));
        while (block.find()) {
            for (String line : block.group(1).split("\n")) {
                program.append(statement(line)).append('\n');
            }
        }
        program.append("return asked > 40 ? wrong : -1;\n}\n}\n");
        int wrong = run(program.toString());
        System.out.println(wrong == 0 ? "the examples answer as README.md has it" : "README.md is wrong");
        if (wrong != 0) {
            System.exit(1);
        }
    }

    private static String statement(String line) {
        Matcher asked = ASKED.matcher(line);
        if (!asked.matches()) {
            return line;
        }
        String due = "due(\"" + asked.group(3) + "\", ";
        return asked.group(1) == null ? due + asked.group(3) + ", " + asked.group(4) + ");"
            : asked.group(1) + asked.group(3) + "; " + due + asked.group(2) + ", " + asked.group(4) + ");";
    }

    private static int run(String program) throws Exception {
        Path dir = Files.createTempDirectory("examples");
        Path source = dir.resolve("Examples.java");
        Path compiled = dir.resolve("Examples.class");
        try {
            Files.writeString(source, program);
            int failed = ToolProvider.getSystemJavaCompiler().run(null, null, null, "-proc:none", "-cp",
                System.getProperty("java.class.path"), "-d", dir.toString(), source.toString());
            if (failed != 0) {
                return -1;
            }
            try (URLClassLoader loader = new URLClassLoader(new URL[] {new File(dir.toString()).toURI().toURL()})) {
                Method method = loader.loadClass("Examples").getMethod("run");
                return (Integer) method.invoke(null);
            }
        } finally {
            Files.deleteIfExists(compiled);
            Files.deleteIfExists(source);
            Files.deleteIfExists(dir);
        }
    }
}
