import java.io.IOException;
import java.lang.reflect.InvocationTargetException;
import java.lang.reflect.Method;
import java.lang.reflect.Modifier;
import java.nio.file.Files;
import java.nio.file.Path;
import java.util.TreeSet;
import java.util.regex.Matcher;
import java.util.regex.Pattern;

/** What README.md says of the class: its example, line by line, and its table of calls with their refusals. */
public final class ReadmeTest {
    private static final Pattern TEXT = Pattern.compile("String text = \"([^\"]*)\";");
    private static final Pattern LINE = Pattern.compile("(?m)^x\\.(\\w+)\\(([^)]*)\\);\\s+// (-?\\d+): ");
    private static final Pattern ROW = Pattern.compile("(?m)^\\| `(\\w+)\\(([^)]*)\\)` \\|[^|]*\\|([^|]*)\\|$");
    private static final Pattern PROMISE =
        Pattern.compile("(?s)## Promise \\d+: (\\w+)\\s+`int \\w+\\(([^)]*)\\)`:(.*?)(?=\\n## )");
    private static int wrong = 0;

    private static void check(boolean holds, String what) {
        if (!holds) {
            wrong++;
            System.out.println("ReadmeTest: " + what);
        }
    }

    private static String read(String name) throws IOException {
        return Files.readString(Path.of(System.getProperty("project.root", "."), name));
    }

    private static TreeSet<String> publicCalls() {
        TreeSet<String> names = new TreeSet<>();
        for (Method method : VoiceWills.class.getDeclaredMethods()) {
            if (Modifier.isPublic(method.getModifiers())) {
                names.add(method.getName());
            }
        }
        return names;
    }

    private static int answer(VoiceWills x, String name, String told) throws IllegalAccessException {
        String[] words = told.isEmpty() ? new String[0] : told.split(", ");
        for (Method method : VoiceWills.class.getMethods()) {
            if (method.getName().equals(name) && method.getParameterCount() == words.length) {
                Object[] given = new Object[words.length];
                for (int i = 0; i < words.length; i++) {
                    boolean isTruth = method.getParameterTypes()[i] == boolean.class;
                    given[i] = isTruth ? (Object) Boolean.valueOf(words[i]) : (Object) Integer.valueOf(words[i]);
                }
                try {
                    return (Integer) method.invoke(x, given);
                } catch (InvocationTargetException e) {
                    throw new IllegalStateException(e);
                }
            }
        }
        check(false, "there is no such call: " + name + "(" + told + ")");
        return 0;
    }

    private static void checkExample(String readme) throws IllegalAccessException {
        VoiceWills x = new VoiceWills();
        Matcher text = TEXT.matcher(readme);
        check(text.find(), "the example tells no text");
        String letters = text.group(1);
        for (int i = 0; i < letters.length(); i++) {
            x.feed(letters.charAt(i));
        }
        TreeSet<String> shown = new TreeSet<>();
        Matcher line = LINE.matcher(readme);
        while (line.find()) {
            int got = answer(x, line.group(1), line.group(2));
            int want = Integer.parseInt(line.group(3));
            check(got == want, line.group(1) + "(" + line.group(2) + ") answers " + got + ", README says " + want);
            shown.add(line.group(1));
        }
        check(shown.size() >= 25, "the example shows only " + shown);
    }

    /** The words in capitals that are refusals, in a row of the table or in a promise. */
    private static TreeSet<String> refusals(String text) {
        TreeSet<String> found = new TreeSet<>();
        for (String each : new String[] {"UNKNOWN", "OUTSIDE", "NOT", "FULL"}) {
            if (Pattern.compile("\\b" + each + "\\b").matcher(text).find()) {
                found.add(each);
            }
        }
        return found;
    }

    private static void checkTable(String readme, String document) {
        TreeSet<String> rows = new TreeSet<>();
        Matcher row = ROW.matcher(readme);
        while (row.find()) {
            check(rows.add(row.group(1)), "two rows for " + row.group(1));
            Matcher promise = PROMISE.matcher(document);
            while (promise.find()) {
                if (promise.group(1).equals(row.group(1))) {
                    String parameters = promise.group(2).replaceAll("(int|boolean) ", "");
                    check(parameters.equals(row.group(2)), row.group(1) + " takes (" + parameters + ")");
                    check(refusals(promise.group(3)).equals(refusals(row.group(3))),
                        row.group(1) + " refuses by " + refusals(promise.group(3)));
                }
            }
        }
        check(rows.equals(publicCalls()), "the table has " + rows);
    }

    public static void main(String[] args) throws IOException, IllegalAccessException {
        String readme = read("README.md");
        checkExample(readme);
        checkTable(readme, read("../shared/DOC.md"));
        check(readme.contains(".ci/run"), "README does not say how to run the tests");
        System.out.println("ReadmeTest: " + wrong + " wrong");
        if (wrong != 0) {
            System.exit(1);
        }
    }
}
