import java.io.ByteArrayOutputStream;
import java.io.PrintStream;
import java.net.URL;
import java.net.URLClassLoader;
import java.nio.charset.StandardCharsets;
import java.nio.file.Files;
import java.nio.file.Path;
import java.util.ArrayList;
import java.util.List;
import java.util.regex.Matcher;
import java.util.regex.Pattern;
import javax.tools.ToolProvider;

/** The example of README.md: it compiles and prints what stands there, and each call answers what is told behind it. */
public final class ReadmeTest {
    private static final Pattern TOLD = Pattern.compile("( *)(?:int (\\w+) = )?(x\\.\\w+\\([^;]*\\)); +// (-?\\d+): .*");
    private static final List<Answer> ANSWERS = new ArrayList<>();

    private record Answer(String call, long got, long want) {
    }

    private ReadmeTest() {
    }

    public static void main(String[] args) throws Exception {
        String readme = Files.readString(Path.of("README.md"));
        String program = block(readme, "java");
        Check.due("as it stands it prints", played(program).equals(block(readme, "text")) ? 1 : 0, 1);
        StringBuilder asking = new StringBuilder();
        int told = 0;
        for (String line : program.split("\n")) {
            Matcher m = TOLD.matcher(line);
            boolean isTold = m.matches();
            told += isTold ? 1 : 0;
            Check.isTrue("an answer stands behind " + line, isTold || !line.contains("//") && !line.matches("\\s+x\\..*"));
            asking.append(isTold ? due(m) : line).append('\n');
        }
        played(asking.toString());
        for (Answer a : ANSWERS) {
            Check.due("the README's " + a.call, a.got, a.want);
        }
        Check.due("answers looked at", ANSWERS.size(), told);
        Check.isTrue("there are some", told > 15);
        Check.end("ReadmeTest");
    }

    private static String block(String readme, String language) {
        Matcher m = Pattern.compile("(?s)```" + language + "\n(.*?)```").matcher(readme);
        Check.isTrue("README.md has a block of " + language, m.find());
        return m.group(1);
    }

    private static String due(Matcher told) {
        String call = told.group(3);
        String name = told.group(2);
        String asked = name == null ? call : name;
        return (name == null ? "" : "int " + name + " = " + call + "; ")
            + "ReadmeTest.answered(\"" + call + "\", " + asked + ", " + told.group(4) + ");";
    }

    /** Called by the example; looked at later, as what is printed meanwhile counts as the example's. */
    public static void answered(String call, long got, long want) {
        ANSWERS.add(new Answer(call, got, want));
    }

    /** What the program prints, compiled beside the class. */
    private static String played(String program) throws Exception {
        Path folder = Files.createTempDirectory("readme");
        Path source = folder.resolve("Example.java");
        Files.writeString(source, program);
        int code = ToolProvider.getSystemJavaCompiler().run(null, null, null,
            "-cp", System.getProperty("java.class.path"), "-d", folder.toString(), source.toString());
        Check.due("compiling the README's example", code, 0);
        PrintStream before = System.out;
        ByteArrayOutputStream printed = new ByteArrayOutputStream();
        try (URLClassLoader loader = new URLClassLoader(new URL[] {folder.toUri().toURL()})) {
            System.setOut(new PrintStream(printed, true, StandardCharsets.UTF_8));
            loader.loadClass("Example").getMethod("main", String[].class).invoke(null, (Object) new String[0]);
        } finally {
            System.setOut(before);
            Files.delete(folder.resolve("Example.class"));
            Files.delete(source);
            Files.delete(folder);
        }
        return printed.toString(StandardCharsets.UTF_8);
    }
}
