import java.io.IOException;
import java.nio.file.Files;
import java.nio.file.Path;
import java.util.List;
import java.util.regex.Matcher;
import java.util.regex.Pattern;

/** What of LANGUAGE.md can be read off the source by its words. */
public final class LanguageTest {
    private static final Check CHECK = new Check();
    private static final int LONGEST_METHOD = 60;
    private static final String[] RULED_OUT = {"->", "::", "\\btry\\b", "\\bcatch\\b", "\\bfinally\\b", "\\bsynchronized\\b", "\\bassert\\b",
        "\\bnull\\b", "\\bpackage\\b", "\\bprotected\\b", "\\btoString\\b", "\\bhashCode\\b", "\\bnew\\s+\\w+\\s*\\[\\s*\\]\\s*\\[",
        "\\bdouble\\b", "\\bfloat\\b", "\\bstatic\\s*\\{", "\\bSystem\\.(?!arraycopy)", "Exact\\b", "\\bgetClass\\b", "\\binstanceof\\b"};

    public static void main(String[] args) throws IOException {
        List<String> lines = Files.readAllLines(Path.of("src/main/java/ElderBallast.java"));
        StringBuilder code = new StringBuilder();
        boolean comment = false;
        for (String line : lines) {
            comment = comment || line.trim().startsWith("/**");
            code.append(comment ? "" : line.replaceAll("//.*", "")).append('\n');
            comment = comment && !line.contains("*/");
        }
        String source = code.toString();
        for (String word : RULED_OUT) {
            CHECK.due(word + " does not stand in it", Pattern.compile(word).matcher(source).find(), false);
        }
        Matcher imports = Pattern.compile("^import (.*);", Pattern.MULTILINE).matcher(source);
        while (imports.find()) {
            CHECK.due("import " + imports.group(1), imports.group(1).equals("java.util.NoSuchElementException"), true);
        }
        Matcher thrown = Pattern.compile("throw (.*);").matcher(source);
        int throwing = 0;
        while (thrown.find()) {
            CHECK.due(thrown.group(), thrown.group(1).equals("new NoSuchElementException()"), true);
            throwing++;
        }
        CHECK.due("three calls throw", throwing, 3);
        methodsAreShort(source.split("\n"));
        for (String line : lines) {
            CHECK.due("signs 1 to 126 alone: " + line, line.chars().allMatch(c -> c >= 32 && c < 127), true);
        }
        CHECK.close();
    }

    private static void methodsAreShort(String[] lines) {
        int from = -1;
        String indent = "";
        for (int i = 0; i < lines.length; i++) {
            Matcher m = Pattern.compile("^( {4}| {8})(?!.*\\bclass\\b)[a-zA-Z].*\\) .*\\{$").matcher(lines[i]);
            if (from < 0 && m.find()) {
                from = i;
                indent = m.group(1);
            } else if (from >= 0 && lines[i].equals(indent + "}")) {
                CHECK.due("short: " + lines[from].trim(), i - from + 1 <= LONGEST_METHOD, true);
                from = -1;
            }
        }
    }
}
