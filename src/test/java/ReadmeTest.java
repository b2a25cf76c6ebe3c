import java.io.IOException;
import java.lang.reflect.InvocationTargetException;
import java.lang.reflect.Method;
import java.lang.reflect.Modifier;
import java.nio.file.Files;
import java.nio.file.Path;
import java.util.Arrays;
import java.util.List;
import java.util.regex.Matcher;
import java.util.regex.Pattern;

/** What README.md says is so: its example is run, and what it names is looked up. It runs in the project's folder. */
public final class ReadmeTest {
    private static final Path README = Path.of("README.md");
    private static final Pattern EXAMPLE = Pattern.compile("(?s)```java\n(.*?)```");
    /** A call, and in the comment the answer with words or bytes behind it. */
    private static final Pattern ROW = Pattern.compile("mail\\.(\\w+)\\((.*)\\); *// ([^:]+)(?:: (.*))?");
    private static final Pattern QUOTED = Pattern.compile("\"(.*)\"");
    private static final Pattern STATEMENT = Pattern.compile("(?m)^\\| `([^`]*;)` \\|");
    private static final Pattern FILE = Pattern.compile("`((?:\\.\\./)?[\\w.]+/[\\w./]+)`");
    private static final String FIRST_ROW = "BalloonMail mail = new BalloonMail();";
    private static final String THROWS = "throws ";

    private final Check check = new Check("ReadmeTest");
    private final String readme;

    private ReadmeTest(String readme) {
        this.readme = readme;
    }

    public static void main(String[] args) throws IOException, IllegalAccessException {
        ReadmeTest test = new ReadmeTest(Files.readString(README));
        test.runExample();
        test.lookUpMembers();
        test.parseStatements();
        test.lookUpFiles();
        test.check.finish();
    }

    private void runExample() throws IllegalAccessException {
        Matcher example = EXAMPLE.matcher(readme);
        check.due("there is an example", example.find(), true);
        List<String> rows = example.group(1).lines().toList();
        check.due("its first row makes an object", rows.get(0).equals(FIRST_ROW), true);
        check.due("it has more rows", rows.size() > 1, true);
        BalloonMail mail = new BalloonMail();
        for (String row : rows.subList(1, rows.size())) {
            Matcher matcher = ROW.matcher(row);
            check.due("'" + row + "' is a call with its answer", matcher.matches(), true);
            if (matcher.matches()) {
                int[] arguments = arguments(matcher.group(2));
                check.dueText(row, answer(mail, matcher.group(1), arguments), due(matcher.group(3).strip()));
                if (matcher.group(1).equals("append")) {
                    checkBytes(row, arguments);
                }
            }
        }
    }

    private static int[] arguments(String text) throws IllegalAccessException {
        String[] parts = text.isEmpty() ? new String[0] : text.split(", ");
        int[] arguments = new int[parts.length];
        for (int k = 0; k < parts.length; k++) {
            String constant = parts[k].replace("BalloonMail.", "");
            arguments[k] = constant.equals(parts[k]) ? Integer.decode(parts[k]) : constant(constant);
        }
        return arguments;
    }

    private static int constant(String name) throws IllegalAccessException {
        try {
            return BalloonMail.class.getField(name).getInt(null);
        } catch (NoSuchFieldException e) {
            throw new IllegalStateException("README.md names no constant of the class: " + name, e);
        }
    }

    private static String due(String written) throws IllegalAccessException {
        return written.matches("[A-Z_]+") ? String.valueOf(constant(written)) : written;
    }

    private static String answer(BalloonMail mail, String name, int[] arguments) throws IllegalAccessException {
        Class<?>[] types = new Class<?>[arguments.length];
        Arrays.fill(types, int.class);
        try {
            Method method = BalloonMail.class.getMethod(name, types);
            return String.valueOf(method.invoke(mail, Arrays.stream(arguments).boxed().toArray()));
        } catch (NoSuchMethodException e) {
            return "no such method";
        } catch (InvocationTargetException e) {
            return THROWS + e.getCause().getClass().getSimpleName();
        }
    }

    /** The text in the comment of a call of append is the one that its arguments hold. */
    private void checkBytes(String row, int[] arguments) {
        Matcher quoted = QUOTED.matcher(row);
        check.due("'" + row + "' quotes its text", quoted.find(), true);
        int[][] words = Check.words(quoted.group(1));
        check.due("'" + row + "' quotes 20 bytes", quoted.group(1).length(), 20);
        check.due("'" + row + "' quotes what it appends", Arrays.equals(words[0], arguments), true);
    }

    private void lookUpMembers() {
        for (Method method : BalloonMail.class.getDeclaredMethods()) {
            if (Modifier.isPublic(method.getModifiers())) {
                dueNamed(method.getName());
            }
        }
        for (String constant : new String[] {"INVALID", "NONE", "TOO_HEAVY", "NO_PIGEONS"}) {
            dueNamed(constant);
        }
    }

    private void dueNamed(String member) {
        check.due(member + " is named", readme.contains("`" + member + "`"), true);
    }

    /** The statements of the table, one after another, are a siege with one or more of each kind. */
    private void parseStatements() {
        List<String> statements = named(STATEMENT);
        check.good(String.join("", statements));
        List<String> kinds = statements.stream().map(text -> text.replaceFirst("[ ;].*", "")).distinct().toList();
        check.dueText("kinds of statements", String.join(" ", kinds),
                "region wind turn balloon letter loft start seed");
    }

    private List<String> named(Pattern pattern) {
        return pattern.matcher(readme).results().map(result -> result.group(1)).toList();
    }

    private void lookUpFiles() {
        List<String> names = named(FILE);
        check.due("files are named", names.isEmpty(), false);
        for (String name : names) {
            check.due(name + " is there", Files.exists(Path.of(name)), true);
        }
        check.due(".ci/run can be run", Files.isExecutable(Path.of(".ci/run")), true);
    }
}
