import java.io.File;
import java.io.IOException;
import java.lang.reflect.Method;
import java.lang.reflect.Modifier;
import java.nio.charset.StandardCharsets;
import java.nio.file.Files;
import java.nio.file.Path;
import java.util.regex.Matcher;
import java.util.regex.Pattern;

/** README.md names each call and each test, and what it shows of their use holds. */
public final class ReadmeTest {
    /** What a CLAUSE's numbers may be is said behind it, from this column on. */
    private static final int COMMENTS_FROM = 47;
    private static final Due DUE = new Due();

    public static void main(String[] args) throws IOException {
        String readme = Files.readString(Path.of("README.md"), StandardCharsets.UTF_8);
        callsAreNamed(readme);
        testsAreNamed(readme);
        useHolds();
        clausesHold(readme);
        DUE.close("ReadmeTest");
    }

    /** Each in a row of a table, with as many names in it as it has arguments. */
    private static void callsAreNamed(String readme) {
        int rows = 0;
        for (Method m : SlipCoach.class.getDeclaredMethods()) {
            if (Modifier.isPublic(m.getModifiers())) {
                Matcher row = Pattern.compile("^\\| `" + m.getName() + "\\(([a-z, ]*)\\)` \\|", Pattern.MULTILINE).matcher(readme);
                boolean found = row.find();
                DUE.is("README.md names " + m.getName(), found ? 1 : 0, 1);
                String names = found ? row.group(1) : "";
                DUE.is("arguments of " + m.getName(), names.isEmpty() ? 0 : names.split(", ").length, m.getParameterCount());
                DUE.is("README.md names once " + m.getName(), row.find() ? 1 : 0, 0);
                rows++;
            }
        }
        DUE.is("calls", rows, 48);
    }

    private static void testsAreNamed(String readme) {
        for (String file : new File("src/test/java").list()) {
            if (file.endsWith("Test.java")) {
                String name = file.substring(0, file.length() - 5);
                DUE.is("README.md names " + name, readme.contains("| `" + name + "` |") ? 1 : 0, 1);
            }
        }
    }

    private static void useHolds() {
        SlipCoach x = new SlipCoach();
        DUE.is("feed", x.feed(0x6c696e65, 0x206c6f6e, 0x67203230, 0x3b202020, 0x20202020), 20);
        DUE.is("end", x.end(13), 13);
        DUE.is("line", x.line(), 1);
        DUE.is("yard", x.yard(5, 2), 15);
    }

    /** The CLAUSES that it shows are a LINE. */
    private static void clausesHold(String readme) {
        int from = readme.indexOf("line long 400;");
        String block = readme.substring(from, readme.indexOf("```", from));
        StringBuilder text = new StringBuilder();
        for (String line : block.split("\n")) {
            text.append(line, 0, Math.min(COMMENTS_FROM, line.length())).append('\n');
        }
        SlipCoach x = Due.told(text.toString());
        int[] due = {400, 1, 1, 1, 1, 8};
        for (int what = 0; what < due.length; what++) {
            DUE.is("count " + what + " of the CLAUSES shown", x.count(what), due[what]);
        }
        DUE.is("POST", x.coach(0, 3), 50);
    }
}
