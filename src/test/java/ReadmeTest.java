import java.io.IOException;
import java.lang.reflect.Method;
import java.lang.reflect.Modifier;
import java.nio.file.DirectoryStream;
import java.nio.file.Files;
import java.nio.file.Path;
import java.util.ArrayList;
import java.util.List;
import java.util.Set;
import java.util.TreeSet;

/** What README.md shows is what the class answers, and no call and no test is missing there. */
public final class ReadmeTest {

    private static final Path README = Path.of("README.md");
    private static final String CODE = "```";

    private static final Due DUE = new Due();

    private static final List<String> shown = new ArrayList<>();
    private static int next;

    public static void main(String[] args) throws IOException {
        readExample();
        example();
        DUE.is(shown.size(), "lines of the example that are tested", () -> next);
        String text = Files.readString(README);
        DUE.is("[]", "calls that README.md does not name", () -> callsLeftOut(text));
        Set<String> tests = testsLeftOut(text);
        DUE.is("[]", "tests that README.md does not name", tests::toString);
        DUE.end("ReadmeTest");
    }

    private static void readExample() throws IOException {
        boolean isCode = false;
        for (String line : Files.readAllLines(README)) {
            if (line.startsWith(CODE)) {
                isCode = !isCode;
            } else if (isCode) {
                shown.add(line);
            }
        }
    }

    private static void example() {
        DovecoteMail mail = new DovecoteMail();
        line("DovecoteMail mail = new DovecoteMail()");
        int work = mail.folder(0, 0);
        line("int work = mail.folder(0, 0)", work);
        line("mail.rule(0, 0, 4, false, 0, work, false)", mail.rule(0, 0, 4, false, 0, work, false));
        int message = mail.send(4, 0b0001, 7, 0b1, 25, -1);
        line("int message = mail.send(4, 0b0001, 7, 0b1, 25, -1)", message);
        line("mail.copy(0, message, 1)", mail.copy(0, message, 1));
        int large = mail.query(3, 20, 0);
        line("int large = mail.query(3, 20, 0)", large);
        line("mail.found(0, large, 0)", mail.found(0, large, 0));
        line("mail.setAge(0, work, 10)", mail.setAge(0, work, 10));
        line("mail.wouldAge(0, 10)", mail.wouldAge(0, 10));
        line("mail.setClock(10)", mail.setClock(10));
        line("mail.copy(0, message, 1)", mail.copy(0, message, 1));
        line("mail.setClock(30)", mail.setClock(30));
        line("mail.copy(0, message, 1)", mail.copy(0, message, 1));
    }

    private static String nextShown() {
        String line = next < shown.size() ? shown.get(next) : "";
        next++;
        return line;
    }

    private static void line(String call) {
        DUE.is(call + ";", "the example's line", ReadmeTest::nextShown);
    }

    private static void line(String call, int answer) {
        DUE.is(call + "; // " + answer, "the example's line",
                () -> nextShown().replaceAll(" +//", " //").replaceAll(":.*", ""));
    }

    private static String callsLeftOut(String text) {
        Set<String> missing = new TreeSet<>();
        for (Method method : DovecoteMail.class.getDeclaredMethods()) {
            if (Modifier.isPublic(method.getModifiers()) && !text.contains("`" + method.getName() + "`")) {
                missing.add(method.getName());
            }
        }
        return missing.toString();
    }

    private static Set<String> testsLeftOut(String text) throws IOException {
        Set<String> missing = new TreeSet<>();
        try (DirectoryStream<Path> tests = Files.newDirectoryStream(Path.of("src/test/java"), "*Test.java")) {
            for (Path test : tests) {
                String name = test.getFileName().toString().replace(".java", "");
                if (!text.contains("`" + name + "`")) {
                    missing.add(name);
                }
            }
        }
        return missing;
    }
}
