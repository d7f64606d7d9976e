import java.io.IOException;
import java.lang.reflect.Method;
import java.lang.reflect.Modifier;
import java.nio.file.Files;
import java.nio.file.Path;
import java.util.List;
import java.util.function.Supplier;

/** README.md names every call, and each line of its example has the answer that the class gives. */
public final class ReadmeTest {
    private static final String BLOCK_BEGINS = "```java";
    private static final String BLOCK_ENDS = "```";
    private static final String ANSWER_BEGINS = "// ";

    private final List<String> lines;
    private int next;
    private int wrong = 0;

    private ReadmeTest(List<String> lines) {
        this.lines = lines;
        next = lines.indexOf(BLOCK_BEGINS) + 1;
    }

    public static void main(String[] args) throws IOException {
        ReadmeTest test = new ReadmeTest(Files.readAllLines(Path.of("README.md")));
        test.namesEveryCall();
        test.example();
        System.out.println(test.wrong + " faults in README.md");
        if (test.wrong != 0) {
            System.exit(1);
        }
    }

    private void namesEveryCall() {
        names("`new ExactDigits()`");
        for (Method method : ExactDigits.class.getDeclaredMethods()) {
            if (Modifier.isPublic(method.getModifiers())) {
                names("| `" + method.getName() + "(");
            }
        }
        names(".ci/run");
    }

    private void names(String text) {
        if (lines.stream().noneMatch(line -> line.contains(text))) {
            fault("nothing is said of " + text);
        }
    }

    private void example() {
        ExactDigits x = new ExactDigits();
        is("ExactDigits x = new ExactDigits();", "");
        is("x.real(Double.doubleToRawLongBits(0.1), false);", x.real(Double.doubleToRawLongBits(0.1), false));
        is("x.round(20);", x.round(20));
        is("Double.longBitsToDouble(x.nearest(false));", Double.longBitsToDouble(x.nearest(false)));
        is("x.shortest(Double.doubleToRawLongBits(0.1), false);",
            x.shortest(Double.doubleToRawLongBits(0.1), false));
        is("x.shift(-3);", x.shift(-3));
        is("x.told(1);", x.told(1));
        is("x.digit(1);", x.digit(1));
        is("x.put(4, 7);", x.put(4, 7));
        is("x.move(3);", x.move(3));
        is("x.cut(1);", x.cut(1));
        is("x.round(0);", x.round(0));
        is("x.digest();", x.digest());
        is("x.whole(-1);", x.whole(-1));
        is("x.put(0, 10);", thrown(() -> x.put(0, 10)));
        is("x.real(0x7FF0000000000000L, false);", thrown(() -> x.real(0x7FF0000000000000L, false)));
        if (!BLOCK_ENDS.equals(nextLine())) {
            fault("the example has lines that are not tried here");
        }
    }

    private static String thrown(Supplier<Object> made) {
        try {
            return made.get().toString();
        } catch (RuntimeException e) {
            return e.getClass().getSimpleName();
        }
    }

    /** The example's next line: the call as it is made here, and behind it the answer, up to a colon. */
    private void is(String call, Object answer) {
        String line = nextLine();
        int begin = line.indexOf(ANSWER_BEGINS);
        String told = begin < 0 ? "" : line.substring(begin + ANSWER_BEGINS.length()).split(":")[0];
        String made = begin < 0 ? line : line.substring(0, begin).strip();
        if (!made.equals(call)) {
            fault("the example has " + line + " where " + call + " is tried");
        } else if (!told.equals(answer.toString())) {
            fault(call + " answers " + answer + ", the example tells " + told);
        }
    }

    private String nextLine() {
        String line = next < lines.size() ? lines.get(next) : "";
        next++;
        return line;
    }

    private void fault(String words) {
        wrong++;
        System.out.println(words);
    }
}
