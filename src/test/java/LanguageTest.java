import java.io.IOException;
import java.nio.file.Files;
import java.nio.file.Path;
import java.util.List;
import java.util.regex.Matcher;
import java.util.regex.Pattern;

/** Those rules of LANGUAGE.md that the program's text shows. Runs in the project's folder. */
public final class LanguageTest {
    private static final Due DUE = new Due();
    private static final List<String> FORBIDDEN = List.of("throw", "throws", "try", "catch", "synchronized", "assert",
        "package", "protected", "Exact", "System\\.(?!arraycopy)", "Random", "Thread", "::", "->", "Object", "var",
        "equals", "hashCode", "toString", "boolean\\[\\]\\[\\]");

    public static void main(String[] args) throws IOException {
        String text = Files.readString(Path.of("src/main/java/CutBoard.java"));
        for (int k = 0; k < text.length(); k++) {
            if (text.charAt(k) > 127) {
                DUE.holds("the sign at " + k + " is below 128", false);
            }
        }
        String code = text.replaceAll("(?s)/\\*.*?\\*/", "").replaceAll("//[^\n]*", "");
        for (String word : FORBIDDEN) {
            String bounded = Character.isLetter(word.charAt(0)) ? "\\b" + word : word;
            String whole = Character.isLetter(word.charAt(word.length() - 1)) ? bounded + "\\b" : bounded;
            DUE.holds("no " + word, !Pattern.compile(whole).matcher(code).find());
        }
        imports(code);
        methodLengths(code);
        Matcher classes = Pattern.compile("\\bclass\\s+\\w+").matcher(code);
        int found = 0;
        while (classes.find()) {
            found++;
        }
        DUE.holds("at most twelve classes, but " + found, found <= 12);
        DUE.end();
    }

    private static void imports(String code) {
        Matcher imports = Pattern.compile("import ([^;]+);").matcher(code);
        while (imports.find()) {
            String name = imports.group(1);
            DUE.holds("import " + name, name.equals("java.util.Arrays"));
        }
    }

    /** A method begins with a line that ends in ") {" and no word of a statement, and ends at its own indent. */
    private static void methodLengths(String code) {
        String[] lines = code.split("\n");
        Pattern head = Pattern.compile("^( +)(public|private)[^=;]*\\) \\{$");
        for (int k = 0; k < lines.length; k++) {
            Matcher begins = head.matcher(lines[k]);
            if (!begins.find()) {
                continue;
            }
            int end = k;
            while (!lines[end].equals(begins.group(1) + "}")) {
                end++;
            }
            DUE.holds("a short method: " + lines[k].trim(), end - k < 60);
            String parameters = lines[k].substring(lines[k].indexOf('('));
            DUE.holds("at most seven parameters: " + lines[k].trim(), parameters.split(",").length <= 7);
        }
    }
}
