import java.io.ByteArrayOutputStream;
import java.io.IOException;
import java.io.PrintStream;
import java.lang.reflect.Method;
import java.nio.file.Files;
import java.nio.file.Path;

/** What README.md shows is what stands: its example, what that prints, every call by its name. */
public final class ReadmeTest {
    public static void main(String[] args) throws IOException {
        String readme = Files.readString(Path.of("README.md"));
        String example = Files.readString(Path.of("src/test/java/ReadmeExample.java"));
        Check.same("the example", example, block(readme, "```java\n"));
        Check.same("what it prints", printed(), block(readme, "```text\n"));
        for (Method m : ListedGoods.class.getMethods()) {
            if (m.getDeclaringClass() == ListedGoods.class) {
                boolean isTold = readme.contains("`" + m.getName() + "`") || readme.contains("`" + m.getName() + "(");
                Check.same("told of: " + m.getName(), "true", "" + isTold);
            }
        }
        Check.end("ReadmeTest");
    }

    private static String block(String readme, String opening) {
        int from = readme.indexOf(opening);
        int to = readme.indexOf("```", from + opening.length());
        return from < 0 || to < 0 ? "no block" : readme.substring(from + opening.length(), to);
    }

    private static String printed() {
        PrintStream old = System.out;
        ByteArrayOutputStream bytes = new ByteArrayOutputStream();
        System.setOut(new PrintStream(bytes, true));
        ReadmeExample.main(new String[0]);
        System.setOut(old);
        return bytes.toString().replace("\r", "");
    }
}
