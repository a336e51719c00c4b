import java.io.IOException;
import java.lang.reflect.Field;
import java.lang.reflect.Method;
import java.lang.reflect.Modifier;
import java.nio.file.Files;
import java.nio.file.Path;
import java.util.Arrays;
import java.util.List;
import java.util.Set;
import java.util.TreeSet;
import java.util.regex.Matcher;
import java.util.regex.Pattern;

/** What can be seen of LANGUAGE.md's rules from the source and from the compiled class; the rest is for readers. */
public final class KeepsToTheLanguage {
    static final Path SOURCE = Path.of("src/main/java/PensionHouse.java");
    static final Path DOC = Path.of("../shared/DOC.md");

    public static void main(String[] args) throws IOException {
        String code = withoutCommentsAndTexts(Files.readString(SOURCE));
        face(Files.readString(DOC));
        classes();
        names(code);
        methodsAreShort(code);
        Desk.end();
    }

    static void holds(String rule, boolean holds) {
        Desk.due(rule, holds ? 1 : 0, 1);
    }

    static String withoutCommentsAndTexts(String source) {
        return source.replaceAll("(?s)/\\*.*?\\*/", "").replaceAll("\"(\\\\.|[^\"\\\\])*\"", "\"\"")
            .replaceAll("'(\\\\.|[^'\\\\])'", "''").replaceAll("//[^\n]*", "");
    }

    /** Rule 1: the methods, constants and the constructor of the document, and no other. */
    static void face(String doc) {
        Set<String> want = new TreeSet<>();
        Matcher said = Pattern.compile("(?m)^    public (int|long) (\\w+)\\(([^)]*)\\);").matcher(doc);
        while (said.find()) {
            want.add(said.group(1) + " " + said.group(2) + "(" + said.group(3).replaceAll("(\\w+) \\w+", "$1").replace(" ", "") + ")");
        }
        holds("the document has a face", want.size() == 32 - 1);
        Set<String> got = new TreeSet<>();
        Set<String> names = new TreeSet<>();
        for (Method method : PensionHouse.class.getDeclaredMethods()) {
            if (!Modifier.isPrivate(method.getModifiers())) {
                StringBuilder types = new StringBuilder();
                for (Class<?> type : method.getParameterTypes()) {
                    types.append(types.length() > 0 ? "," : "").append(type.getName());
                }
                got.add(method.getReturnType().getName() + " " + method.getName() + "(" + types + ")");
                names.add(method.getName());
            }
        }
        System.out.print(got.equals(want) ? "" : got + "\n" + want + "\n");
        holds("1 the methods of the document", got.equals(want));
        for (Class<?> type : all()) {
            for (Method method : type.getDeclaredMethods()) {
                boolean isPrivate = Modifier.isPrivate(method.getModifiers());
                holds("1 no private method is named " + method, !isPrivate || !names.contains(method.getName()));
                holds("11 seven parameters: " + method, method.getParameterCount() <= 7);
            }
        }
        Set<String> constants = new TreeSet<>();
        for (Field field : PensionHouse.class.getDeclaredFields()) {
            if (!Modifier.isPrivate(field.getModifiers())) {
                constants.add(field.getName());
                holds("1 a public constant: " + field, field.toString().startsWith("public static final int "));
            }
        }
        holds("1 the constants", constants.equals(new TreeSet<>(Arrays.asList("NONE", "UNKNOWN", "OUTSIDE", "STATE", "ROOM"))));
        holds("1 one constructor", PensionHouse.class.getDeclaredConstructors().length == 1);
        holds("1 public and final", Modifier.toString(PensionHouse.class.getModifiers()).equals("public final"));
    }

    static List<Class<?>> all() {
        List<Class<?>> all = new java.util.ArrayList<>(Arrays.asList(PensionHouse.class.getDeclaredClasses()));
        all.add(PensionHouse.class);
        return all;
    }

    /** Rules 1, 3, 5 and 11. */
    static void classes() {
        holds("11 twelve classes", all().size() <= 12);
        for (Class<?> type : all()) {
            int modifiers = type.getModifiers();
            boolean isInside = type != PensionHouse.class;
            holds("1 static, not public: " + type, !isInside || Modifier.isStatic(modifiers) && !Modifier.isPublic(modifiers));
            int fields = 0;
            for (Field field : type.getDeclaredFields()) {
                boolean isStatic = Modifier.isStatic(field.getModifiers());
                Class<?> of = field.getType();
                fields += isStatic ? 0 : 1;
                holds("5 final: " + field, !isStatic || Modifier.isFinal(field.getModifiers()));
                holds("5 a constant: " + field, !isStatic || of == int.class || of == long.class || of == String.class);
                boolean isOwn = all().contains(of.isArray() ? of.getComponentType() : of);
                boolean isRow = of == long[].class || of == int[].class || of == byte[].class || of == boolean[].class;
                boolean isNumber = of == int.class || of == long.class || of == String.class;
                holds("3 a type of the rules: " + field, isOwn || isRow || isNumber || of == long[][].class);
            }
            holds("11 twenty fields: " + type + " has " + fields, fields <= 20);
        }
    }

    /** Rules 2, 3, 4, 6, 10 and 13, by what their words would be in the source. */
    static void names(String code) {
        String[] none = {"->", "::", "\\bdouble\\b", "\\bfloat\\b", "\\bpackage\\b", "\\bprotected\\b", "\\bthrow\\b", "\\bthrows\\b",
            "\\bcatch\\b", "\\btry\\b", "\\bfinally\\b", "\\bsynchronized\\b", "\\bassert\\b", "\\bvar\\b", "\\bSystem\\.(?!arraycopy)",
            "\\bThread\\b", "\\bRandom\\b", "\\bString\\.format\\b", "Exact\\(", "\\.equals\\(", "hashCode", "\"\" *\\+", "\\+ *\"\"",
            "\\bObject\\b", "\\bstatic \\{", "\\bwhile \\(true\\)", "\\bfor \\(;;\\)"};
        for (String word : none) {
            Matcher found = Pattern.compile(word).matcher(code);
            holds("no " + word, !found.find());
        }
        Matcher imports = Pattern.compile("(?m)^import (.*);").matcher(code);
        while (imports.find()) {
            holds("4 import " + imports.group(1), imports.group(1).equals("java.util.Arrays"));
        }
        Matcher calls = Pattern.compile("\\b(Arrays|Math|Integer|Long|String|System)\\.(\\w+)").matcher(code);
        Set<String> may = Set.of("Arrays.fill", "Math.min", "Math.max", "System.arraycopy");
        while (calls.find()) {
            holds("4 " + calls.group(), may.contains(calls.group()));
        }
    }

    /** Rule 11: some sixty lines. A method begins at a line that ends with ") {" and is no statement. */
    static void methodsAreShort(String code) {
        String[] lines = code.split("\n");
        int methods = 0;
        for (int i = 0; i < lines.length; i++) {
            String line = lines[i];
            boolean begins = line.endsWith(") {") && !line.trim().matches("(\\} )?(if|for|while|switch|else)\\b.*");
            if (!begins) {
                continue;
            }
            String end = line.replaceAll("\\S.*", "") + "}";
            int last = i;
            while (last < lines.length && !lines[last].equals(end)) {
                last++;
            }
            methods++;
            holds("11 sixty lines: " + line.trim(), last - i + 1 <= 60);
        }
        holds("11 methods were found", methods > 100);
    }
}
