import java.io.ByteArrayOutputStream;
import java.io.IOException;
import java.io.PrintStream;
import java.lang.reflect.Method;
import java.lang.reflect.Modifier;
import java.net.URL;
import java.net.URLClassLoader;
import java.nio.file.Files;
import java.nio.file.Path;
import java.util.ArrayList;
import java.util.List;
import javax.tools.ToolProvider;

/** The program in README.md compiles and prints what stands behind its lines; every call of the face is named there. */
public final class ReadmeTest {
    private static final String PRINTS = "System.out.println(";

    public static void main(String[] args) throws Exception {
        Due due = new Due();
        String readme = Files.readString(Path.of("README.md"));
        String program = program(readme);
        List<String> calls = new ArrayList<>();
        List<String> wanted = new ArrayList<>();
        for (String line : program.split("\n")) {
            if (line.contains(PRINTS)) {
                calls.add(line.trim());
                wanted.add(line.substring(line.lastIndexOf("//") + 2).trim());
            }
        }
        List<String> got = printed(program);
        due.is("lines that the program prints", got.size(), wanted.size());
        due.is("there are some", wanted.isEmpty(), false);
        for (int i = 0; i < Math.min(got.size(), wanted.size()); i++) {
            due.is(calls.get(i) + " printed " + got.get(i), got.get(i).equals(wanted.get(i)), true);
        }
        for (Method m : SilentTable.class.getDeclaredMethods()) {
            if (Modifier.isPublic(m.getModifiers())) {
                boolean named = readme.contains("`" + m.getName() + "`") || readme.contains("`" + m.getName() + "(");
                due.is(m.getName() + " is named", named, true);
            }
        }
        due.close("ReadmeTest");
    }

    private static String program(String readme) {
        String start = "```java\n";
        int from = readme.indexOf(start);
        int to = readme.indexOf("```\n", from + start.length());
        return from < 0 || to < 0 ? "" : readme.substring(from + start.length(), to);
    }

    private static List<String> printed(String program) throws Exception {
        Path room = Files.createTempDirectory("readme");
        PrintStream out = System.out;
        ByteArrayOutputStream bytes = new ByteArrayOutputStream();
        try {
            Path file = room.resolve("Example.java");
            Files.writeString(file, program);
            String path = System.getProperty("java.class.path");
            int failed = ToolProvider.getSystemJavaCompiler().run(null, null, null, "-cp", path, "-d", room.toString(), file.toString());
            if (failed != 0) {
                return List.of();
            }
            System.setOut(new PrintStream(bytes, true));
            try (URLClassLoader loader = new URLClassLoader(new URL[] {room.toUri().toURL()})) {
                loader.loadClass("Example").getMethod("main", String[].class).invoke(null, (Object) new String[0]);
            }
        } finally {
            System.setOut(out);
            forget(room);
        }
        return bytes.toString().lines().toList();
    }

    private static void forget(Path room) throws IOException {
        for (String name : new String[] {"Example.java", "Example.class"}) {
            Files.deleteIfExists(room.resolve(name));
        }
        Files.deleteIfExists(room);
    }
}
