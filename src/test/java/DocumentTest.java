import java.io.IOException;
import java.lang.reflect.Method;
import java.nio.file.Files;
import java.nio.file.Path;
import java.util.ArrayList;
import java.util.HashMap;
import java.util.List;
import java.util.Map;
import java.util.regex.Matcher;
import java.util.regex.Pattern;

/** Every sentence of the document's description and promises belongs to a test of boundaries that quotes it. */
public final class DocumentTest {
    private static final Path DOCUMENT = Path.of("../shared/DOC.md");
    private static final List<Class<?>> TESTS = List.of(TextBoundsTest.class, SiegeBoundsTest.class,
            ChanceBoundsTest.class, LoadBoundsTest.class, FlightBoundsTest.class, PigeonBoundsTest.class,
            ChangeBoundsTest.class);
    private static final int PROMISES = 47;
    /** A part begins with its name in capitals, or with the heading of a promise. */
    private static final Pattern PART = Pattern.compile("(?m)^(?:([A-Z][A-Z ]+)\\. |## (Promise \\d+): .*$)");
    /** What stands between sentences: signatures, the titles of groups, and the word before the list of ranges. */
    private static final Pattern NO_SENTENCE = Pattern.compile("(?m)^`.*`$|^---- [a-z ]+$|^Ranges: ");

    public static void main(String[] args) throws IOException {
        Check check = new Check("DocumentTest");
        Map<String, String> parts = parts(Files.readString(DOCUMENT));
        long promises = parts.keySet().stream().filter(name -> name.startsWith("Promise")).count();
        check.due("promises in the document", promises, PROMISES);
        for (Class<?> type : TESTS) {
            for (Method test : Bounds.tests(type)) {
                strike(check, test, parts);
            }
        }
        parts.forEach((name, rest) -> check.dueText(name + ", sentences without a test", rest.strip(), ""));
        check.finish();
    }

    private static Map<String, String> parts(String document) {
        String text = document.substring(document.indexOf("## Description"), document.indexOf("## Not promised"));
        text = text.replaceFirst("(?s)The constants:.*?(?=## Promise 1:)", "");
        List<String> names = new ArrayList<>();
        List<Integer> starts = new ArrayList<>();
        List<Integer> ends = new ArrayList<>();
        Matcher matcher = PART.matcher(text);
        while (matcher.find()) {
            names.add(matcher.group(1) != null ? matcher.group(1) : matcher.group(2));
            starts.add(matcher.end());
            ends.add(matcher.start());
        }
        ends.add(text.length());
        Map<String, String> parts = new HashMap<>();
        for (int k = 0; k < names.size(); k++) {
            String part = text.substring(starts.get(k), ends.get(k + 1));
            parts.put(names.get(k), oneLine(NO_SENTENCE.matcher(part).replaceAll("")));
        }
        return parts;
    }

    private static String oneLine(String text) {
        return text.replaceAll("\\s+", " ");
    }

    private static void strike(Check check, Method test, Map<String, String> parts) {
        Says says = test.getAnnotation(Says.class);
        for (String quoted : says.value()) {
            String sentence = oneLine(quoted);
            String part = parts.getOrDefault(says.in(), "");
            check.due("'" + sentence + "' stands in " + says.in(), part.contains(sentence), true);
            parts.put(says.in(), part.replace(sentence, ""));
        }
    }
}
