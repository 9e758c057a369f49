import java.lang.reflect.Method;
import java.util.Map;
import java.util.TreeMap;

/** The words that the sentences' tests are of stand in the document, and no word of its Terms and Promises is left out. */
public final class DocumentTest {
    private static final Check CHECK = new Check();
    private static final Class<?>[] TESTS = {Term1BoundsTest.class, Term2BoundsTest.class, Term3BoundsTest.class,
        Term4BoundsTest.class, Term5BoundsTest.class, Promise1To8BoundsTest.class, Promise9To16BoundsTest.class,
        Promise17To24BoundsTest.class, Promise25To32BoundsTest.class, StateBoundsTest.class};
    private final Document document = new Document();
    private final Map<String, boolean[]> marks = new TreeMap<>();

    public static void main(String[] args) {
        DocumentTest test = new DocumentTest();
        for (Class<?> tests : TESTS) {
            test.lookUp(tests);
        }
        for (int n = 1; n <= Document.TERMS; n++) {
            test.noneIsLeftOut("Term " + n, 0);
        }
        for (int n = 1; n <= Document.PROMISES; n++) {
            // FaceTest is of the call that a promise begins with
            test.noneIsLeftOut("Promise " + n, test.document.callOf(n).length());
        }
        CHECK.finish();
    }

    private boolean[] marksOf(String part) {
        return marks.computeIfAbsent(part, p -> new boolean[document.part(p).length()]);
    }

    private void lookUp(Class<?> tests) {
        for (Method test : Sentences.of(tests)) {
            Says says = test.getAnnotation(Says.class);
            CHECK.of(test.getName());
            CHECK.due("its words stand in " + says.in(), document.mark(says.in(), says.words(), marksOf(says.in())), true);
            String begin = says.in().replace(" ", "") + "_";
            CHECK.due("its name begins with " + begin, test.getName().toLowerCase().startsWith(begin.toLowerCase()), true);
        }
    }

    /** Each letter and each digit of a part, from one on, stands in the words of some test. */
    private void noneIsLeftOut(String part, int from) {
        CHECK.of(part);
        String text = document.part(part);
        CHECK.due("it stands in the document", text.length() > from, true);
        boolean[] marked = marksOf(part);
        StringBuilder leftOut = new StringBuilder();
        for (int at = from; at < text.length(); at++) {
            if (!marked[at]) {
                leftOut.append(text.charAt(at));
            } else if (!leftOut.isEmpty()) {
                asTested(leftOut);
            }
        }
        asTested(leftOut);
    }

    /** Signs alone, such as a full stop between the words of two tests, need no test. */
    private static void asTested(StringBuilder leftOut) {
        CHECK.due("words without a test: \"" + leftOut + "\"", leftOut.toString().matches(".*[A-Za-z0-9].*"), false);
        leftOut.setLength(0);
    }
}
