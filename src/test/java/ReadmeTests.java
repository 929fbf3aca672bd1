import java.lang.reflect.Method;
import java.nio.file.Files;
import java.nio.file.Path;
import java.util.regex.Matcher;
import java.util.regex.Pattern;

/** README.md says how to use the class: its answers are those of the class, and it names every call. */
final class ReadmeTests {
    private static final Pattern TEXT = Pattern.compile("String text = \"(.*)\";");
    private static final Pattern WRITTEN = Pattern.compile("x\\.write\\(text\\.charAt\\(n\\)\\);");
    private static final Pattern ASKED = Pattern.compile("^x\\.(\\w+)\\(([^)]*)\\); +// (\\d+|[A-Z]+)\\b");
    private static final Pattern CALL = Pattern.compile("public int (\\w+)\\(([^)]*)\\);");

    private ReadmeTests() {
    }

    static void run() throws Exception {
        String readme = Files.readString(Path.of("README.md"));
        String document = Files.readString(Path.of("../shared/DOC.md"));
        examples(readme);
        namesEveryCall(readme, document);
        saysHowToTest(readme);
    }

    private static void examples(String readme) throws Exception {
        Check.begin("README.md, a first town");
        RazorTalk x = new RazorTalk();
        String text = "";
        int asked = 0;
        for (String line : readme.split("\n")) {
            Matcher told = TEXT.matcher(line);
            if (told.find()) text = told.group(1);
            if (WRITTEN.matcher(line).find()) Check.write(x, text);
            if (line.startsWith("x.")) {
                Matcher call = ASKED.matcher(line);
                Check.holds(line + " tells its answer", call.find());
                Check.due(line, answer(x, call.group(1), call.group(2)), number(call.group(3)));
                asked++;
            }
        }
        Check.holds("there are examples", asked > 20);
    }

    private static int answer(RazorTalk x, String name, String arguments) throws Exception {
        String[] written = arguments.isEmpty() ? new String[0] : arguments.split(", ");
        Object[] numbers = new Object[written.length];
        for (int n = 0; n < numbers.length; n++) numbers[n] = number(written[n]);
        for (Method method : RazorTalk.class.getDeclaredMethods()) {
            boolean isAsked = method.getName().equals(name) && method.getParameterCount() == numbers.length;
            if (isAsked) return (Integer) method.invoke(x, numbers);
        }
        throw new IllegalStateException("no call " + name);
    }

    private static int number(String written) throws Exception {
        boolean isName = Character.isUpperCase(written.charAt(0));
        return isName ? RazorTalk.class.getField(written).getInt(null) : Integer.parseInt(written);
    }

    private static void namesEveryCall(String readme, String document) {
        Check.begin("README.md, all calls");
        Matcher call = CALL.matcher(document);
        int calls = 0;
        while (call.find()) {
            String asInReadme = "| `" + call.group(1) + "(" + call.group(2).replace("int ", "") + ")` |";
            Check.holds(asInReadme + " stands there", readme.contains(asInReadme));
            calls++;
        }
        Check.due("calls of the document", calls, 25);
        for (String constant : new String[] {"NONE", "UNKNOWN", "OUTSIDE", "NOT", "FULL"}) {
            Check.holds(constant + " stands there", readme.contains("| `" + constant + "` |"));
        }
    }

    private static void saysHowToTest(String readme) throws Exception {
        Check.begin("README.md, how to run the tests");
        Check.holds(".ci/run stands there", readme.contains("\n    .ci/run\n") && Files.isExecutable(Path.of(".ci/run")));
        try (var files = Files.list(Path.of("src/test/java"))) {
            for (Path file : (Iterable<Path>) files::iterator) {
                String name = file.getFileName().toString().replace(".java", "");
                Check.holds(name + " stands there", readme.contains("`" + name + "`"));
            }
        }
    }
}
