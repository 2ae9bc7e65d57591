import java.io.IOException;
import java.lang.reflect.Method;
import java.lang.reflect.Modifier;
import java.net.URL;
import java.net.URLClassLoader;
import java.nio.file.Files;
import java.nio.file.Path;
import java.util.ArrayList;
import java.util.List;
import java.util.regex.Matcher;
import java.util.regex.Pattern;
import javax.tools.ToolProvider;

/** The README's examples are compiled as they stand there and must answer what is written beside each call. */
public final class ReadmeTest {
    private static final Pattern BLOCK = Pattern.compile("(?s)```java\n(.*?)```");
    private static final Pattern LINE =
        Pattern.compile("(?:int (\\w+) = )?(house\\.\\w+\\([^;]*\\)); +// (-?\\d+|true|false)\\b.*");
    private static final String FIRST = "CommaOrphans house = new CommaOrphans();";

    private final Check check = new Check("ReadmeTest");

    public static void main(String[] args) throws IOException, ReflectiveOperationException {
        ReadmeTest test = new ReadmeTest();
        String readme = Files.readString(Path.of("README.md"));
        test.namesEveryCall(readme);
        test.examples(readme);
        test.check.close();
    }

    private void namesEveryCall(String readme) {
        String table = readme.substring(readme.indexOf("| for | calls |"), readme.indexOf("Where one call has several"));
        for (Method method : CommaOrphans.class.getDeclaredMethods()) {
            if (Modifier.isPublic(method.getModifiers())) {
                boolean named = Pattern.compile("`" + method.getName() + "[`(]").matcher(table).find();
                check.due("the table names " + method.getName(), named, true);
            }
        }
    }

    private void examples(String readme) throws IOException, ReflectiveOperationException {
        Matcher block = BLOCK.matcher(readme);
        int count = 0;
        while (block.find()) {
            count++;
            run("ReadmeExample" + count, block.group(1));
        }
        check.due("examples", count, 3);
    }

    /** Each call's line becomes one that adds the answer to a row of texts. */
    private void run(String name, String block) throws IOException, ReflectiveOperationException {
        List<String> calls = new ArrayList<>();
        List<String> wanted = new ArrayList<>();
        StringBuilder source = new StringBuilder("public class ").append(name);
        source.append(" { public static void run(java.util.List<String> got) {\n");
        for (String line : block.split("\n")) {
            Matcher m = LINE.matcher(line);
            if (m.matches()) {
                calls.add(m.group(2));
                wanted.add(m.group(3));
                source.append(asked(m.group(1), m.group(2)));
            } else {
                check.due("'" + line + "' tells its answer", line.isEmpty() || line.equals(FIRST), true);
                source.append(line).append('\n');
            }
        }
        List<String> got = answers(name, source.append("} }\n").toString());
        for (int i = 0; i < wanted.size(); i++) {
            String call = name + ": " + calls.get(i) + " answered " + got.get(i) + ", the README tells " + wanted.get(i);
            check.due(call, got.get(i).equals(wanted.get(i)), true);
        }
    }

    private static String asked(String name, String call) {
        return name == null ? "got.add(\"\" + " + call + ");\n"
            : "int " + name + " = " + call + "; got.add(\"\" + " + name + ");\n";
    }

    private static List<String> answers(String name, String source) throws IOException, ReflectiveOperationException {
        Path room = Files.createTempDirectory("readme");
        Path file = room.resolve(name + ".java");
        Path compiled = room.resolve(name + ".class");
        try {
            Files.writeString(file, source);
            ToolProvider.getSystemJavaCompiler().run(null, null, null, "-cp", System.getProperty("java.class.path"),
                "-d", room.toString(), file.toString());
            List<String> got = new ArrayList<>();
            try (URLClassLoader loader = new URLClassLoader(new URL[] {room.toUri().toURL()})) {
                loader.loadClass(name).getMethod("run", List.class).invoke(null, got);
            }
            return got;
        } finally {
            Files.deleteIfExists(compiled);
            Files.deleteIfExists(file);
            Files.deleteIfExists(room);
        }
    }
}
