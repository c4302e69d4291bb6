import java.lang.reflect.Method;
import java.lang.reflect.Modifier;
import java.nio.file.Files;
import java.nio.file.Path;
import java.util.ArrayList;
import java.util.HashSet;
import java.util.List;
import java.util.Set;

/** The examples of README.md answer what stands behind them; run from the project's directory. */
public final class ReadmeTest {
    private static final Path README = Path.of("README.md");
    private static final Path THIS = Path.of("src/test/java/ReadmeTest.java");

    private final Expect expect = new Expect("readme");
    /** What README.md tells of each call, in its order. */
    private final List<String> told = new ArrayList<>();
    private int next = 0;

    public static void main(String[] args) throws Exception {
        ReadmeTest test = new ReadmeTest();
        test.takeExamples();
        test.gatesAndLines();
        test.texts();
        test.expect.same("examples that were run", test.next, test.told.size());
        test.namesEveryCall();
        test.expect.end();
    }

    /** Each line of the examples must be a line of this test too, so that what is run here is what stands there. */
    private void takeExamples() throws Exception {
        Set<String> here = new HashSet<>();
        for (String line : Files.readAllLines(THIS)) {
            here.add(line.strip().replaceFirst("^answers\\((.*)\\);$", "$1;"));
        }
        boolean isExample = false;
        for (String line : Files.readAllLines(README)) {
            if (line.startsWith("```")) {
                isExample = line.equals("```java");
            } else if (isExample && !line.isEmpty()) {
                takeExample(line, here);
            }
        }
        expect.same("there are examples", told.isEmpty(), false);
    }

    private void takeExample(String line, Set<String> here) {
        String[] codeAndWords = line.split("//", 2);
        String code = codeAndWords[0].strip();
        expect.same("this test has the line " + code, here.contains(code), true);
        if (code.matches("[xy]\\..*")) {
            expect.same(code + " has an answer in README.md", codeAndWords.length, 2);
            told.add(codeAndWords.length < 2 ? "" : codeAndWords[1].strip().replaceFirst(":.*", ""));
        }
    }

    private void answers(Object answer) {
        String due = next < told.size() ? told.get(next) : "no example more";
        next++;
        expect.same("example " + next, String.valueOf(answer), due);
    }

    private void gatesAndLines() {
        ProofLines x = new ProofLines();
        int a = x.gate(0, 0, 0);
        int b = x.gate(0, 0, 0);
        int and = x.gate(1, 2 * a, 2 * b);
        int either = x.gate(2, 2 * a, 2 * b);
        answers(x.holds(2 * and, 3L));
        answers(x.implied(2 * and, ProofLines.NONE, ProofLines.NONE, b));

        int line = x.line();
        answers(x.literal(line, 2 * a));
        answers(x.literal(line, 2 * b));
        answers(x.literal(line, 2 * either + 1));
        answers(x.good(line));
        int same = x.equalLine(2 * either, 2 * a);
        answers(x.good(same));
        answers(x.check(1));
    }

    private void texts() {
        ProofLines y = new ProofLines();
        int p = y.gate(0, 0, 0);
        int q = y.gate(0, 0, 0);
        int one = y.gate(1, 2 * p, 2 * q);
        int other = y.gate(1, 2 * q, 2 * p);
        int both = y.gate(2, 6, 8);
        for (char c : "= +3 +4\nc -5 +3\n".toCharArray()) { y.unit(c); }
        answers(y.read());
        answers(y.check(11));
        answers(y.shorten(11));
        answers(y.count(4));
        answers(y.text(0));
        expect.same("gates one, other and both", one + " " + other + " " + both, "3 4 5");
    }

    private void namesEveryCall() throws Exception {
        String readme = Files.readString(README);
        for (Method method : ProofLines.class.getDeclaredMethods()) {
            if (Modifier.isPublic(method.getModifiers())) {
                String name = method.getName();
                expect.same("README.md tells of " + name, readme.contains("| `" + name + "("), true);
            }
        }
    }
}
