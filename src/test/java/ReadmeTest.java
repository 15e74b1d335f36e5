import java.lang.reflect.Field;
import java.lang.reflect.Method;
import java.nio.charset.StandardCharsets;
import java.nio.file.Files;
import java.nio.file.Path;
import java.util.ArrayList;
import java.util.Arrays;
import java.util.List;
import java.util.Set;
import java.util.TreeSet;
import java.util.regex.Matcher;
import java.util.regex.Pattern;

/** That README.md tells of the class and of its tests what is so; it runs in the project's folder. */
public final class ReadmeTest {
    private static final Pattern OBJECT = Pattern.compile("FairBooks x = new FairBooks\\(\\);");
    private static final Pattern CALL = Pattern.compile("x\\.(\\w+)\\(([-0-9, ]*)\\); +// (-?[0-9]+|[A-Z_]+)(: .+)?");
    private static final Pattern TYPED = Pattern.compile("for \\(char c : \"([^\"]*)\"\\.toCharArray\\(\\)\\) x\\.type\\(c\\);");
    private static final Pattern METHOD = Pattern.compile("(?m)^    public int (\\w+)\\(([^)]*)\\)");
    private static final Check C = new Check("ReadmeTest");

    private final String readme;

    private ReadmeTest(String readme) {
        this.readme = readme;
    }

    public static void main(String[] args) throws Exception {
        ReadmeTest test = new ReadmeTest(read("README.md"));
        test.examples();
        test.constants();
        test.calls();
        test.commands();
        test.tests();
        C.end();
    }

    private static String read(String path) throws Exception {
        return Files.exists(Path.of(path)) ? Files.readString(Path.of(path), StandardCharsets.UTF_8) : "";
    }

    private static void holds(String what, boolean isSo) {
        C.due(what, 1, isSo ? 1 : 0);
    }

    /** The lines of all parts of a kind of code. */
    private List<String> code(String kind) {
        List<String> lines = new ArrayList<>();
        Matcher part = Pattern.compile("(?s)```" + kind + "\n(.*?)```").matcher(readme);
        while (part.find()) {
            lines.addAll(Arrays.asList(part.group(1).split("\n")));
        }
        return lines;
    }

    /** Does the examples as they stand; each call must answer what stands behind it. */
    private void examples() throws Exception {
        FairBooks x = null;
        for (String line : code("java")) {
            Matcher call = CALL.matcher(line);
            Matcher typed = TYPED.matcher(line);
            if (OBJECT.matcher(line).matches()) {
                x = new FairBooks();
            } else if (call.matches()) {
                C.due(line, number(call.group(3)), answer(x, call.group(1), numbers(call.group(2))));
            } else if (typed.matches()) {
                for (char c : typed.group(1).toCharArray()) {
                    holds(line, x.type(c) > 0);
                }
            } else {
                holds("a line of code that is understood: " + line, false);
            }
        }
        holds("examples", x != null);
    }

    private static int number(String told) throws Exception {
        return Character.isLetter(told.charAt(0)) ? FairBooks.class.getField(told).getInt(null) : Integer.parseInt(told);
    }

    private static int[] numbers(String told) {
        return told.isEmpty() ? new int[0] : Arrays.stream(told.split(", ")).mapToInt(Integer::parseInt).toArray();
    }

    private static int answer(FairBooks x, String name, int... arguments) throws Exception {
        for (Method m : FairBooks.class.getMethods()) {
            if (m.getName().equals(name) && m.getParameterCount() == arguments.length) {
                return (int) m.invoke(x, Arrays.stream(arguments).boxed().toArray());
            }
        }
        throw new NoSuchMethodException(name);
    }

    private void constants() throws Exception {
        int ahead = 0;
        for (Field f : FairBooks.class.getFields()) {
            int at = readme.indexOf("| `" + f.getName() + "` | " + f.getInt(null) + " |");
            holds("a row of " + f.getName() + ", in the order of the errors", at > ahead);
            ahead = at;
        }
    }

    /** A row for each call, with its parameters, with its errors as the document tells them, with each number of what. */
    private void calls() throws Exception {
        String document = read("../shared/DOC.md");
        Matcher method = METHOD.matcher(read("src/main/java/FairBooks.java"));
        int calls = 0;
        while (method.find()) {
            String told = "`" + method.group(1) + "(" + method.group(2).replace("int ", "") + ")`";
            Matcher row = Pattern.compile("(?m)^\\| " + Pattern.quote(told) + " \\|(.*)\\| (.*?) ?\\|$").matcher(readme);
            boolean isThere = row.find();
            holds("a row of " + told, isThere);
            if (isThere && !document.isEmpty()) {
                C.due(told + " with the errors of the document, not " + row.group(2), 0, differences(document, method.group(1), row.group(2)));
            }
            if (isThere && method.group(2).endsWith("int what")) {
                whats(method.group(1), method.group(2).split(",").length, row.group(1));
            }
            calls++;
        }
        C.due("calls", 25, calls);
    }

    private static int differences(String document, String call, String row) {
        Matcher section = Pattern.compile("(?s)\n## Promise \\d+: " + call + "\n(.*?)(?=\n## |$)").matcher(document);
        Set<String> due = section.find() ? found("INVALID_ARGUMENT|NOT_POSSIBLE|LIMIT_REACHED|NOT_FOUND", section.group(1)) : Set.of("no section");
        Set<String> told = new TreeSet<>();
        for (String letter : found("\\b[IPLF]\\b(?=[:;]|$)", row)) {
            told.add(letter.equals("I") ? "INVALID_ARGUMENT" : letter.equals("P") ? "NOT_POSSIBLE"
                : letter.equals("L") ? "LIMIT_REACHED" : "NOT_FOUND");
        }
        return told.equals(due) ? 0 : 1;
    }

    private static Set<String> found(String pattern, String text) {
        Set<String> found = new TreeSet<>();
        Matcher m = Pattern.compile(pattern).matcher(text);
        while (m.find()) {
            found.add(m.group());
        }
        return found;
    }

    /** Each number of what that a row tells is in the range, and the next one is not. */
    private static void whats(String call, int parameters, String row) throws Exception {
        FairBooks x = new FairBooks();
        x.name(1, 0);
        x.leaf(0);
        int[] arguments = new int[parameters];
        int what = 0;
        while (row.contains(" " + what + ": ")) {
            arguments[parameters - 1] = what;
            holds(call + ", what " + what, answer(x, call, arguments) != FairBooks.INVALID_ARGUMENT);
            what++;
        }
        arguments[parameters - 1] = what;
        holds(call + " tells " + what + " numbers of what", what > 1);
        C.due(call + ", what " + what, FairBooks.INVALID_ARGUMENT, answer(x, call, arguments));
    }

    /** Each command is that by which the tests are run, or one of those in it. */
    private void commands() throws Exception {
        String run = read(".ci/run");
        List<String> commands = code("sh");
        holds("the first command runs all tests", !commands.isEmpty() && commands.get(0).equals("bash .ci/run"));
        for (int i = 1; i < commands.size(); i++) {
            String options = commands.get(i).replaceAll("( -d | -cp ).*", "$1");
            holds(".ci/run has " + options, run.contains(options));
            holds("files of " + commands.get(i), !options.startsWith("javac ") || commands.get(i).contains(" src/main/java/FairBooks.java "));
        }
    }

    /** Each test of the project is named, and none that is not there. */
    private void tests() throws Exception {
        Set<String> due = new TreeSet<>();
        try (var files = Files.list(Path.of("src/test/java"))) {
            files.map(f -> f.getFileName().toString()).filter(f -> f.endsWith("Test.java")).forEach(f -> due.add(f.replace(".java", "")));
        }
        Set<String> told = found("(?<=`)\\w+Test(?=`)", readme);
        if (!told.equals(due)) {
            System.out.println("README.md tells of " + told + ", there are " + due);
        }
        holds("the tests", told.equals(due) && !due.isEmpty());
    }
}
