import java.io.IOException;
import java.net.URL;
import java.net.URLClassLoader;
import java.nio.file.Files;
import java.nio.file.Path;
import java.util.ArrayList;
import java.util.List;
import java.util.regex.Matcher;
import java.util.regex.Pattern;
import javax.tools.JavaCompiler;
import javax.tools.ToolProvider;

/** The examples of README.md are compiled and run; each answers what stands behind it. */
public final class ReadmeTest {
    private static final Pattern BLOCK = Pattern.compile("(?s)```java\n(.*?)```");
    private static final Pattern ANSWERED = Pattern.compile("\\s*(.*?);\\s*// (-?\\w+)(:.*)?");

    private static int wrong = 0;
    private static int answered = 0;

    public static void main(String[] args) throws Exception {
        // .ci/run tells where the page is
        String page = System.getProperty("readme");
        if (page == null) {
            System.out.println("README.md isn't told: nothing is looked at");
            return;
        }
        run(programOf(Files.readString(Path.of(page))));
        if (answered < 20) {
            wrong++;
            System.out.println("README.md has but " + answered + " examples");
        }
        System.out.println(wrong == 0 ? "README.md tells what is" : wrong + " examples of README.md don't hold");
        if (wrong != 0) {
            System.exit(1);
        }
    }

    /** Called by the examples. */
    public static void due(String call, Object got, Object want) {
        answered++;
        if (!got.toString().equals(want.toString())) {
            wrong++;
            System.out.println("README.md: " + call + " answered " + got + ", it tells " + want);
        }
    }

    private static String programOf(String page) {
        StringBuilder methods = new StringBuilder();
        StringBuilder lines = new StringBuilder();
        Matcher block = BLOCK.matcher(page);
        while (block.find()) {
            if (block.group(1).startsWith("static ")) {
                methods.append(block.group(1));
            } else {
                block.group(1).lines().forEach(line -> lines.append(lineOf(line)).append('\n'));
            }
        }
        return "public final class Examples {\nstatic final int NONE = Procession.NONE;\n" + methods
                + "public static void run() {\n" + lines + "}\n}\n";
    }

    private static String lineOf(String line) {
        Matcher m = ANSWERED.matcher(line);
        if (!m.matches()) {
            return line;
        }
        String told = m.group(1).replace("\"", "'");
        return "ReadmeTest.due(\"" + told + "\", " + m.group(1) + ", " + m.group(2) + ");";
    }

    private static void run(String program) throws Exception {
        Path out = Files.createTempDirectory("readme");
        try {
            Path source = out.resolve("Examples.java");
            Files.writeString(source, program);
            JavaCompiler compiler = ToolProvider.getSystemJavaCompiler();
            int failed = compiler.run(null, null, null, "-d", out.toString(), "-cp",
                    System.getProperty("java.class.path"), source.toString());
            if (failed != 0) {
                wrong++;
                System.out.println(program);
                return;
            }
            try (URLClassLoader loader = new URLClassLoader(new URL[] {out.toUri().toURL()})) {
                loader.loadClass("Examples").getMethod("run").invoke(null);
            }
        } finally {
            clear(out);
        }
    }

    private static void clear(Path folder) throws IOException {
        List<Path> files = new ArrayList<>();
        try (var listed = Files.list(folder)) {
            listed.forEach(files::add);
        }
        for (Path file : files) {
            Files.delete(file);
        }
        Files.delete(folder);
    }
}
