import java.io.IOException;
import java.nio.file.Files;
import java.nio.file.Path;
import java.util.List;
import java.util.regex.Matcher;
import java.util.regex.Pattern;

/** The rules of LANGUAGE.md that a look at the text of the program can check. It runs in the project's folder. */
public final class LanguageTest {
    private static final Path PROGRAM = Path.of("src/main/java/BalloonMail.java");
    private static final String[] FORBIDDEN = {
        "->", "::", "\\bfinally\\b", "\\bsynchronized\\b", "\\bassert\\b", "\\btry\\b", "\\bcatch\\b", "\\bgetMessage\\b",
        "Exact\\s*\\(", "System\\.(?!arraycopy\\()", "Arrays\\.(?!fill\\(|copyOf\\(|copyOfRange\\()", "static\\s*\\{",
        "\\bpackage\\b", "\\bThread\\b", "\\bRandom\\b", "\\bdouble\\b", "\\bfloat\\b", "\\bvar\\b",
        "Math\\.(?!max\\(|min\\(|abs\\(|floorMod\\(|floorDiv\\()", "[^\\x00-\\x7f]",
    };
    private static final Pattern THROW = Pattern.compile("\\bthrow new (\\w+)\\((\"[^\"]*\")?\\);");
    private static final Pattern METHOD = Pattern.compile(
            "(?m)^( {4}| {8})(?:(?:public|private|static|final) )*[\\w\\[\\]]+ \\w+\\(([^)]*)\\)[^;{=]*\\{$");

    public static void main(String[] args) throws IOException {
        Check check = new Check("LanguageTest");
        String source = Files.readString(PROGRAM);
        String code = source.replaceAll("(?s)/\\*.*?\\*/", "").replaceAll("//[^\n]*", "");
        for (String pattern : FORBIDDEN) {
            check.due("places with " + pattern, count(pattern, code), 0);
        }
        check.due("imports", count("(?m)^import ", code), 1);
        check.due("import of Arrays", count("(?m)^import java\\.util\\.Arrays;$", code), 1);
        check.due("classes, at most twelve", count("\\b(class|enum|record|interface) \\w+", code) <= 12, true);
        check.due("static fields that are not final",
                count("(?m)^ *(private |public )?static (?!final )[^(]*[;=]", code), 0);
        checkThrows(check, code);
        checkMethods(check, source);
        check.finish();
    }

    private static int count(String pattern, String code) {
        return (int) Pattern.compile(pattern).matcher(code).results().count();
    }

    /** The document knows one exception alone. */
    private static void checkThrows(Check check, String code) {
        Matcher matcher = THROW.matcher(code);
        int found = 0;
        while (matcher.find()) {
            found++;
            check.due("throw of " + matcher.group(1),
                    matcher.group(1).equals("IndexOutOfBoundsException"), true);
        }
        check.due("all throws have the written form", found, count("\\bthrow\\b", code));
    }

    private static void checkMethods(Check check, String source) {
        Matcher matcher = METHOD.matcher(source);
        List<String> lines = source.lines().toList();
        int found = 0;
        while (matcher.find()) {
            found++;
            int first = (int) source.substring(0, matcher.start()).lines().count();
            int last = first;
            while (last < lines.size() - 1 && !lines.get(last).equals(matcher.group(1) + "}")) {
                last++;
            }
            String name = lines.get(first).trim();
            check.due(name + " has at most sixty lines", last - first + 1 <= 60, true);
            check.due(name + " has at most seven parameters",
                    matcher.group(2).split(",").length <= 7, true);
        }
        check.due("the methods were found", found >= 46, true);
    }
}
