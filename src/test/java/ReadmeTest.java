import java.io.IOException;
import java.nio.file.Files;
import java.nio.file.Path;
import java.util.Arrays;
import java.util.List;
import java.util.regex.Matcher;
import java.util.regex.Pattern;
import java.util.stream.Stream;

/** README.md: its example answers what it says, and it names each call with its parameters and each test. */
public final class ReadmeTest {
    private static final Due DUE = new Due();
    private static final Calls PROGRAM = new Calls(CutBoard.class);
    private static final Pattern EXAMPLE = Pattern.compile("x\\.(\\w+)\\(([^)]*)\\);\\s*// (-?\\d+):");
    private static final Pattern CALL = Pattern.compile("public (?:int )?(\\w+)\\(([^)]*)\\) \\{");
    private static final Pattern PROMISE = Pattern.compile("## Promise (\\d+): [^\n]*\n+`(?:int )?(\\w+)\\(");

    public static void main(String[] args) throws IOException {
        String page = Files.readString(Path.of("README.md"));
        example(page);
        calls(page, Files.readString(Path.of("src/main/java/CutBoard.java")));
        promises(page, Files.readString(Path.of("../shared/DOC.md")));
        tests(page);
        DUE.end();
    }

    private static void example(String page) {
        CutBoard x = new CutBoard();
        List<String> lines = page.lines().filter(line -> line.startsWith("x.")).toList();
        DUE.holds("there is an example", lines.size() > 10);
        for (String line : lines) {
            Matcher call = EXAMPLE.matcher(line);
            boolean isCall = call.lookingAt();
            DUE.holds(line + " is a call with its answer", isCall);
            if (isCall) {
                int which = Arrays.asList(Calls.NAMES).indexOf(call.group(1));
                int[] told = Stream.of(call.group(2).split(",")).mapToInt(ReadmeTest::value).toArray();
                DUE.is(line, PROGRAM.ask(x, which, told), Integer.parseInt(call.group(3)));
            }
        }
    }

    /** Of a number, a sum of products, or a bit. */
    private static int value(String told) {
        String text = told.trim();
        if (text.contains("+")) {
            return Stream.of(text.split("\\+")).mapToInt(ReadmeTest::value).sum();
        }
        if (text.contains("*")) {
            return Stream.of(text.split("\\*")).mapToInt(ReadmeTest::value).reduce(1, (a, b) -> a * b);
        }
        if (text.contains("<<")) {
            String[] sides = text.split("<<");
            return value(sides[0]) << value(sides[1]);
        }
        return Integer.parseInt(text);
    }

    private static void calls(String page, String program) {
        Matcher call = CALL.matcher(program);
        int found = 0;
        while (call.find()) {
            found++;
            String parameters = call.group(2).replace("int ", "");
            DUE.holds(call.group(1) + " is named", page.contains("| `" + call.group(1) + "(" + parameters + ")` ("));
        }
        DUE.is("calls and the constructor", found, Calls.NAMES.length + 1);
    }

    private static void promises(String page, String document) {
        Matcher promise = PROMISE.matcher(document);
        int found = 0;
        while (promise.find()) {
            found++;
            Pattern named = Pattern.compile("\\| `" + promise.group(2) + "\\([^)]*\\)` \\(" + promise.group(1) + "\\) \\|");
            DUE.holds("promise " + promise.group(1) + " is named", named.matcher(page).find());
        }
        DUE.is("promises", found, 33);
    }

    private static void tests(String page) throws IOException {
        try (Stream<Path> files = Files.list(Path.of("src/test/java"))) {
            for (Path file : files.toList()) {
                String name = file.getFileName().toString().replace(".java", "");
                DUE.holds(name + " is named", page.contains("`" + name + "`"));
            }
        }
    }
}
