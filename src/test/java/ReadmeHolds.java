import java.io.IOException;
import java.lang.reflect.Method;
import java.lang.reflect.Modifier;
import java.net.URL;
import java.net.URLClassLoader;
import java.nio.file.Files;
import java.nio.file.Path;
import java.util.ArrayList;
import java.util.Arrays;
import java.util.List;
import java.util.Set;
import java.util.TreeSet;
import java.util.regex.Matcher;
import java.util.regex.Pattern;
import java.util.stream.Collectors;
import java.util.stream.Stream;
import javax.tools.JavaCompiler;
import javax.tools.ToolProvider;

/** README.md is as it is: its example is compiled and answers what it says, and what it names is there. */
public final class ReadmeHolds {
    static final Path README = Path.of("README.md");
    static final Path TESTS = Path.of("src/test/java");

    public static void main(String[] args) throws Exception {
        String page = Files.readString(README);
        example(page);
        same("the calls of the face", inTable(page, "calls"), face());
        same("the tests with a main", inTable(page, "test"), tests(true));
        same("the helpers without one", named(lineWith(page, "are helpers without a `main`").split(" are helpers")[0]), tests(false));
        same("the classes", inTable(page, "class"), classes());
        commands(page);
        Desk.end();
    }

    static void same(String what, Set<String> said, Set<String> there) {
        Desk.due(what + " that README.md names, " + said + ", are those that are there, " + there, said.equals(there) ? 1 : 0, 1);
    }

    // ---- the example

    /** Each line of it with a call is asked for the answer that stands behind the call. */
    static void example(String page) throws Exception {
        Matcher block = Pattern.compile("(?s)```java\n(.*?)```").matcher(page);
        Desk.due("README.md has an example", block.find() ? 1 : 0, 1);
        StringBuilder code = new StringBuilder("public final class ReadmeExample {\n    public static void answer(java.util.List<Long> answers) {\n");
        List<String> calls = new ArrayList<>();
        List<Long> said = new ArrayList<>();
        for (String line : block.group(1).split("\n")) {
            Matcher call = Pattern.compile("(x\\.\\w+\\(.*\\)); +// (-?\\d+)(: .*)?").matcher(line);
            if (call.matches()) {
                calls.add(call.group(1));
                said.add(Long.valueOf(call.group(2)));
                code.append("        answers.add((long) ").append(call.group(1)).append(");\n");
            } else {
                Desk.due("README.md: an answer stands behind " + line, line.startsWith("x.") ? 0 : 1, 1);
                code.append("        ").append(line).append('\n');
            }
        }
        code.append("    }\n}\n");
        Desk.due("README.md: the example has many calls", calls.size() > 30 ? 1 : 0, 1);
        List<Long> answers = answersOf(code.toString());
        Desk.due("README.md: all calls of the example were made", answers.size(), calls.size());
        for (int i = 0; i < answers.size() && i < calls.size(); i++) {
            Desk.due("README.md: " + calls.get(i), answers.get(i), said.get(i));
        }
    }

    static List<Long> answersOf(String code) throws Exception {
        List<Long> answers = new ArrayList<>();
        Path folder = Files.createTempDirectory("readme");
        Path source = folder.resolve("ReadmeExample.java");
        try {
            Files.writeString(source, code);
            JavaCompiler compiler = ToolProvider.getSystemJavaCompiler();
            int failed = compiler.run(null, null, null, "-cp", System.getProperty("java.class.path"), "-d", folder.toString(), source.toString());
            Desk.due("README.md: the example compiles", failed, 0);
            if (failed == 0) {
                try (URLClassLoader loader = new URLClassLoader(new URL[] {folder.toUri().toURL()})) {
                    loader.loadClass("ReadmeExample").getMethod("answer", List.class).invoke(null, answers);
                }
            }
        } finally {
            for (Path file : list(folder)) {
                Files.delete(file);
            }
            Files.delete(folder);
        }
        return answers;
    }

    // ---- what README.md names

    static Set<String> named(String text) {
        Set<String> names = new TreeSet<>();
        Matcher name = Pattern.compile("`(\\w+)`").matcher(text);
        while (name.find()) {
            names.add(name.group(1));
        }
        return names;
    }

    /** The names in the first column of the table with this head. */
    static Set<String> inTable(String page, String head) {
        Set<String> names = new TreeSet<>();
        boolean isInside = false;
        for (String line : page.split("\n")) {
            isInside = line.startsWith("| " + head + " |") || isInside && line.startsWith("|");
            if (isInside) {
                names.addAll(named(line.split("\\|")[1]));
            }
        }
        return names;
    }

    static String lineWith(String page, String words) {
        for (String line : page.split("\n")) {
            if (line.contains(words)) {
                return line;
            }
        }
        return "";
    }

    /** What README.md says to type names files that are there, and classes that they make. */
    static void commands(String page) {
        Matcher file = Pattern.compile("[\\w./]+/\\w+\\.java|\\.ci/run").matcher(page);
        int files = 0;
        while (file.find()) {
            files++;
            Desk.due("README.md: " + file.group() + " is there", Files.isRegularFile(Path.of(file.group())) ? 1 : 0, 1);
        }
        Desk.due("README.md names files", files > 3 ? 1 : 0, 1);
        Desk.due("README.md: .ci/run can be run", Files.isExecutable(Path.of(".ci/run")) ? 1 : 0, 1);
    }

    // ---- what is there

    static Set<String> face() {
        Set<String> names = new TreeSet<>();
        for (Method method : PensionHouse.class.getDeclaredMethods()) {
            if (Modifier.isPublic(method.getModifiers())) {
                names.add(method.getName());
            }
        }
        return names;
    }

    static Set<String> classes() {
        Set<String> names = Arrays.stream(PensionHouse.class.getDeclaredClasses()).map(Class::getSimpleName).collect(Collectors.toSet());
        names.add("PensionHouse");
        return new TreeSet<>(names);
    }

    /** The files of the tests that have a main (.ci/run runs those), or that have none. */
    static Set<String> tests(boolean withMain) throws IOException {
        Set<String> names = new TreeSet<>();
        for (Path file : list(TESTS)) {
            if (Files.readString(file).contains("void main(") == withMain) {
                names.add(file.getFileName().toString().replace(".java", ""));
            }
        }
        return names;
    }

    static List<Path> list(Path folder) throws IOException {
        try (Stream<Path> files = Files.list(folder)) {
            return new ArrayList<>(files.toList());
        }
    }
}
