import java.lang.reflect.Method;
import java.util.Map;
import java.util.TreeMap;
import java.util.regex.Matcher;
import java.util.regex.Pattern;

/** The sentences that the bounds' tests are of stand in the document, and none that names a bound is left out. */
public final class DocumentTest {
    private static final Check CHECK = new Check();
    private static final Class<?>[] BOUNDS = {Term1BoundsTest.class, Term2BoundsTest.class, Term3BoundsTest.class,
        Term4BoundsTest.class, Term5BoundsTest.class, Promise1To8BoundsTest.class, Promise9To16BoundsTest.class,
        Promise17To24BoundsTest.class, Promise25To32BoundsTest.class, StateBoundsTest.class};
    private static final Pattern OF_A_PROMISE = Pattern.compile("NONE|-2|-1000|none such|no such|another|false|more than"
        + "|below 0|not so many|not by|as many as may be|0 without|\\bNo\\b|no images|[0-9] \\.\\. [0-9]+");
    private static final Pattern OF_A_TERM = Pattern.compile("[0-9] \\.\\. [0-9]+|at most|[0-9] to [0-9]+|\\(0|at first"
        + "|as itself|if there (is|are)|if that is|if they are|if none|else|longer row|as long as|1 or 2 digits|one byte"
        + "|[0-9]th |can't be|not a lesser|that is the first one|all the same|Later ones|further ones|nothing is told"
        + "|0: none|ECHO not being 0|no echo comes|of several the least|of several the first|of one place|1 or more"
        + "|as many as he has left|in place of|behind what he gave|none DANCED|none of which|what is more is lost");
    private final Document document = new Document();
    private final Map<String, boolean[]> marks = new TreeMap<>();

    public static void main(String[] args) {
        DocumentTest test = new DocumentTest();
        for (Class<?> tests : BOUNDS) {
            test.lookUp(tests);
        }
        for (int n = 1; n <= Document.TERMS; n++) {
            test.noneIsLeftOut("Term " + n, OF_A_TERM);
        }
        for (int n = 1; n <= Document.PROMISES; n++) {
            test.noneIsLeftOut("Promise " + n, OF_A_PROMISE);
        }
        CHECK.finish();
    }

    private boolean[] marksOf(String part) {
        return marks.computeIfAbsent(part, p -> new boolean[document.part(p).length()]);
    }

    private void lookUp(Class<?> tests) {
        for (Method test : Sentences.of(tests)) {
            Says says = test.getAnnotation(Says.class);
            CHECK.of(test.getName());
            CHECK.due("its words stand in " + says.in(), document.mark(says.in(), says.words(), marksOf(says.in())), true);
            String begin = says.in().replace(" ", "") + "_";
            CHECK.due("its name begins with " + begin, test.getName().toLowerCase().startsWith(begin.toLowerCase()), true);
        }
    }

    /** Each of the signs of a bound in a part stands in the words of some test. */
    private void noneIsLeftOut(String part, Pattern signs) {
        CHECK.of(part);
        String text = document.part(part);
        CHECK.due("it stands in the document", !text.isEmpty(), true);
        boolean[] marked = marksOf(part);
        Matcher sign = signs.matcher(text);
        while (sign.find()) {
            boolean has = false;
            for (int i = sign.start(); i < sign.end(); i++) {
                has |= marked[i];
            }
            int to = Math.min(text.length(), sign.end() + 40);
            CHECK.due("a test of \"" + text.substring(Math.max(0, sign.start() - 40), to) + "\"", has, true);
        }
    }
}
