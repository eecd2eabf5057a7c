import java.io.IOException;
import java.lang.reflect.Field;
import java.lang.reflect.Method;
import java.lang.reflect.Modifier;
import java.nio.file.Files;
import java.nio.file.Path;
import java.util.ArrayList;
import java.util.List;
import java.util.Set;
import java.util.TreeSet;
import java.util.regex.Matcher;
import java.util.regex.Pattern;

/** LANGUAGE.md: those of its rules that can be seen in the text of the class, or in the class itself. */
final class LanguageTest {
    private static final Check CHECK = new Check("LanguageTest");
    private static final Set<String> NAMED = Set.of("compare", "max", "min", "abs", "bitCount", "floorDiv", "floorMod");
    private static final Pattern OF_THE_LIBRARY =
        Pattern.compile("\\b(Integer|Long|Math|Short|Byte|Character|Float|Double|StrictMath)\\s*\\.\\s*(\\w+)");
    private static final Pattern LEFT_OUT = Pattern.compile(
        "\\b(try|catch|finally|synchronized|assert|native|volatile|transient|equals|hashCode|toString|float|double)\\b"
            + "|->|::");
    private static final Pattern THROW = Pattern.compile("\\bthrow\\b[^;]*;");
    private static final Pattern THROW_IN_FORM = Pattern.compile(
        "throw new (IllegalStateException|IllegalArgumentException|UnsupportedOperationException)\\(\"[^\"]*\"\\);");
    private static final Pattern STATIC_BLOCK = Pattern.compile("\\bstatic\\s*\\{");

    public static void main(String[] args) throws IOException {
        String source = Files.readString(Path.of("src/main/java/BitNumbers.java"));
        String code = source.replaceAll("(?s)/\\*.*?\\*/", " ").replaceAll("//[^\n]*", " ");
        List<Class<?>> classes = new ArrayList<>(List.of(BitNumbers.class));
        classes.addAll(List.of(BitNumbers.class.getDeclaredClasses()));
        namesOfPrivateMethods(classes);
        fieldsOfEnums(classes);
        libraryThatIsNamed(code);
        staticFields(code, classes);
        exceptionsInForm(code);
        sizes(code, classes);
        CHECK.end();
    }

    private static void namesOfPrivateMethods(List<Class<?>> classes) {
        Set<String> face = new TreeSet<>();
        for (Method method : BitNumbers.class.getMethods()) {
            face.add(method.getName());
        }
        for (Method method : methods(classes)) {
            if (Modifier.isPrivate(method.getModifiers())) {
                CHECK.due("rule 1: " + method + " bears a public one's name", face.contains(method.getName()), false);
            }
        }
    }

    private static void fieldsOfEnums(List<Class<?>> classes) {
        for (Field field : fields(classes)) {
            if (field.getDeclaringClass().isEnum() && !Modifier.isStatic(field.getModifiers())) {
                String type = field.getType().getSimpleName();
                CHECK.due("rule 2: " + field, Set.of("int", "long", "boolean", "String").contains(type), true);
            }
        }
    }

    private static void libraryThatIsNamed(String code) {
        Matcher matcher = OF_THE_LIBRARY.matcher(code);
        while (matcher.find()) {
            boolean isNamed = matcher.group(1).matches("Integer|Long|Math") && NAMED.contains(matcher.group(2));
            CHECK.due("rule 4: " + matcher.group() + " stands there", isNamed, true);
        }
        CHECK.due("rule 4: import lines", code.contains("import "), false);
        CHECK.due("rule 4: names with their package", code.contains("java."), false);
    }

    private static void staticFields(String code, List<Class<?>> classes) {
        for (Field field : fields(classes)) {
            if (Modifier.isStatic(field.getModifiers())) {
                CHECK.due("rule 5: " + field + " is final", Modifier.isFinal(field.getModifiers()), true);
            }
        }
        CHECK.due("rule 5: a static block", STATIC_BLOCK.matcher(code).find(), false);
    }

    private static void exceptionsInForm(String code) {
        Matcher leftOut = LEFT_OUT.matcher(code);
        CHECK.due("rules 2 and 6: what they leave out", leftOut.find() ? leftOut.group() : "nothing", "nothing");
        Matcher matcher = THROW.matcher(code);
        while (matcher.find()) {
            CHECK.due("rule 6: " + matcher.group(), THROW_IN_FORM.matcher(matcher.group()).matches(), true);
        }
    }

    private static void sizes(String code, List<Class<?>> classes) {
        CHECK.due("rule 11: at most twelve classes", classes.size() <= 12, true);
        for (Method method : methods(classes)) {
            CHECK.due("rule 11: parameters of " + method, method.getParameterCount() <= 7, true);
        }
        for (Class<?> type : classes) {
            long count = fields(List.of(type)).stream().filter(f -> !Modifier.isStatic(f.getModifiers())).count();
            CHECK.due("rule 11: fields of " + type, count <= 20, true);
        }
        String[] lines = code.split("\n", -1);
        for (int end = 0; end < lines.length; end++) {
            if (lines[end].matches("( {4}| {8})}")) {
                int begin = beginning(lines, end);
                boolean isClass = lines[begin].matches(".*\\b(class|enum) .*");
                CHECK.due("rule 11: lines from " + lines[begin].strip(), isClass || end - begin < 60, true);
            }
        }
    }

    /** The line that opened what is closed here: the nearest one above that stands as deep. */
    private static int beginning(String[] lines, int end) {
        String depth = lines[end].substring(0, lines[end].indexOf('}'));
        int begin = end;
        do {
            begin--;
        } while (begin > 0 && !lines[begin].matches(depth + "[a-zA-Z].*"));
        return begin;
    }

    private static List<Method> methods(List<Class<?>> classes) {
        List<Method> methods = new ArrayList<>();
        for (Class<?> type : classes) {
            for (Method method : type.getDeclaredMethods()) {
                if (!method.isSynthetic()) {
                    methods.add(method);
                }
            }
        }
        return methods;
    }

    private static List<Field> fields(List<Class<?>> classes) {
        List<Field> fields = new ArrayList<>();
        for (Class<?> type : classes) {
            for (Field field : type.getDeclaredFields()) {
                if (!field.isSynthetic()) {
                    fields.add(field);
                }
            }
        }
        return fields;
    }
}
