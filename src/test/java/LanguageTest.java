import java.io.IOException;
import java.nio.file.Files;
import java.nio.file.Path;
import java.util.Set;
import java.util.regex.Matcher;
import java.util.regex.Pattern;

/** LANGUAGE.md, rule 4: of the library, only functions that the rule names by their own name. */
final class LanguageTest {
    private static final Check CHECK = new Check("LanguageTest");
    private static final Set<String> NAMED = Set.of("compare", "max", "min", "abs", "bitCount", "floorDiv", "floorMod");
    private static final Pattern OF_THE_LIBRARY =
        Pattern.compile("\\b(Integer|Long|Math|Short|Byte|Character|Float|Double|StrictMath)\\s*\\.\\s*(\\w+)");

    public static void main(String[] args) throws IOException {
        String source = Files.readString(Path.of("src/main/java/BitNumbers.java"));
        String code = source.replaceAll("(?s)/\\*.*?\\*/", " ").replaceAll("//[^\n]*", " ");
        Matcher matcher = OF_THE_LIBRARY.matcher(code);
        while (matcher.find()) {
            boolean isNamed = matcher.group(1).matches("Integer|Long|Math") && NAMED.contains(matcher.group(2));
            CHECK.due(matcher.group() + " stands in rule 4", isNamed, true);
        }
        CHECK.due("import lines", code.contains("import "), false);
        CHECK.due("names with their package", code.contains("java."), false);
        CHECK.end();
    }
}
