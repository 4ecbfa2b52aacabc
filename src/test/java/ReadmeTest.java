import java.io.ByteArrayOutputStream;
import java.io.IOException;
import java.io.PrintStream;
import java.lang.reflect.Method;
import java.lang.reflect.Modifier;
import java.nio.file.Files;
import java.nio.file.Path;

/** What README.md says of the use of the class is so. */
public final class ReadmeTest {
    private static final Check CHECK = new Check();

    public static void main(String[] args) throws IOException {
        String readme = Files.readString(Path.of("README.md"));
        String example = Files.readString(Path.of("src/test/java/Example.java"));
        CHECK.due("the example is Example.java", readme.contains("```java\n" + example + "```\n"), true);
        String printed = printedByExample();
        CHECK.due("it prints:\n" + printed, readme.contains("```text\n" + printed + "```\n"), true);
        for (Method m : ElderBallast.class.getDeclaredMethods()) {
            if (Modifier.isPublic(m.getModifiers())) {
                CHECK.due(callOf(m) + " is told of", readme.matches("(?s).*`" + callOf(m) + "`.*"), true);
            }
        }
        for (String file : Path.of("src/test/java").toFile().list((folder, name) -> name.endsWith("Test.java"))) {
            String test = file.replace(".java", "");
            CHECK.due(test + " is told of", readme.contains("`" + test + "`"), true);
        }
        CHECK.close();
    }

    private static String printedByExample() {
        PrintStream screen = System.out;
        ByteArrayOutputStream printed = new ByteArrayOutputStream();
        System.setOut(new PrintStream(printed, true));
        Example.main(new String[0]);
        System.setOut(screen);
        return printed.toString().replace("\r\n", "\n");
    }

    /** A call by its name and as many words as it takes. */
    private static String callOf(Method m) {
        StringBuilder call = new StringBuilder(m.getName()).append("\\(");
        for (int i = 0; i < m.getParameterCount(); i++) {
            call.append(i > 0 ? ", " : "").append("\\w+");
        }
        return call.append("\\)").toString();
    }
}
