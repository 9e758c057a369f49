import java.lang.reflect.InvocationTargetException;
import java.lang.reflect.Method;
import java.lang.reflect.Modifier;
import java.util.ArrayList;
import java.util.Arrays;
import java.util.Collections;
import java.util.Comparator;
import java.util.List;
import java.util.Random;

/** What is asked changes nothing, and what was told before, or refused, leaves nothing behind. */
public final class StateBoundsTest {
    private static final int NONE = OneDrum.NONE;
    private static final Check CHECK = new Check();
    private static final List<String> TELLING = List.of("feed", "end", "text", "image", "again");
    private static final int ASKS_OF_EACH = 120;
    /** So few that an object's 512 calls are enough for the texts too. */
    private static final int ASKS_AT_ONCE = 120;
    private static final int[] WHATS = {0, 1, 2, 10, 11, 12, 13, 14, 20, 21, 22, 23, 24, 30, 31, 40, 50, 51, 60, 61};
    /** Two of each sort, few of all that there may be many of. */
    private static final String[][] TEXTS = {
        {"order 0 left tap;order 1 right flam tap;place 1 3;", "turn 2;echo 1;order 0 charge tap;order 0 left tap flam;order 1 left rest;"},
        {"gives 0 tap flam;gives 1 tap rest;", "gives 1 flam rest tap;"},
        {"made 0 left left;", "made 0;made 1 left;"},
        {"last 8;twice 0 tap;", "drop 8 2;"}};
    /** Two of each sort, as many of all as there may be. */
    private static final String[][] FULL = {
        {"turn 4;tired 7;echo 3;wet rest flam;wet roll rest;from 0 3;from 1 2;step 0 4;step 1 3;lag 0 3;lag 1 2;place 0 20;place 1 19;"
            + "order 0 right tap flam roll tap;".repeat(6) + "order 1 charge tap;".repeat(6),
            "echo 9;wet tap flam;step 1 2;lag 0 1;place 0 9;" + "order 0 halt tap;".repeat(6) + "order 1 halt flam tap;".repeat(6)},
        {Check.gives(Check.times(12, "flam"), Check.times(12, "tap")), Check.gives(Check.times(12, "rest"), Check.times(12, "flam"))},
        {"made 0" + Check.times(6, "halt") + ";made 1" + Check.times(6, "charge") + ";",
            "made 0 left;made 1" + Check.times(6, "halt") + ";"},
        {"twice 8 tap;twice 0 flam;swap 1 tap flam;drop 2 3;twice 3 tap;last 4;last 5;last 6;", "twice 8 flam;".repeat(8)}};

    public static void main(String[] args) {
        Sentences.run(StateBoundsTest.class, CHECK);
    }

    private record Ask(Method method, Object[] given) {
        long of(OneDrum x) {
            try {
                return ((Number) method.invoke(x, given)).longValue();
            } catch (IllegalAccessException | InvocationTargetException e) {
                throw new IllegalStateException(toString(), e);
            }
        }

        @Override
        public String toString() {
            return method.getName() + Arrays.toString(given);
        }
    }

    /** Calls of all that ask, by a fixed seed. */
    private static List<Ask> asks() {
        Method[] methods = OneDrum.class.getDeclaredMethods();
        Arrays.sort(methods, Comparator.comparing(Method::getName));
        Random random = new Random(10);
        List<Ask> all = new ArrayList<>();
        for (int i = 0; i < ASKS_OF_EACH; i++) {
            for (Method method : methods) {
                boolean asks = Modifier.isPublic(method.getModifiers()) && !TELLING.contains(method.getName());
                if (asks) {
                    all.add(new Ask(method, any(method, random)));
                }
            }
        }
        return all;
    }

    /** For each number that a call is given the most that it is here; k may be NONE too, w is one of WHATS. */
    private static String numbersOf(String call) {
        switch (call) {
            case "fault": return "1";
            case "war": return "1w";
            case "order": return "113w";
            case "given": case "told": return "11k";
            case "row": return "11k3";
            case "heard": return "111k";
            case "made": return "111k3";
            case "march": return "1119";
            case "force": return "1142";
            case "fix": return "1114";
            case "bribes": return "1112";
            case "meant": return "1113";
            case "truce": return "144";
            case "far": return "1111";
            case "shared": return "1k";
            case "village": return "1k4";
            case "version": return "1111k";
            case "tale": return "1111";
            case "drawn": return "1199w";
            case "common": return "112";
            case "count": return "3";
            default: return "111";
        }
    }

    private static int any(char most, Random random) {
        if (most == 'w') {
            return WHATS[random.nextInt(WHATS.length)];
        }
        return most == 'k' ? random.nextInt(5) - 1 : random.nextInt(most - '0' + 1);
    }

    private static Object[] any(Method method, Random random) {
        Class<?>[] types = method.getParameterTypes();
        Object[] given = new Object[types.length];
        for (int i = 0; i < given.length; i++) {
            if (types[i] == int.class) {
                given[i] = any(numbersOf(method.getName()).charAt(i), random);
            } else {
                given[i] = random.nextBoolean();
            }
        }
        return given;
    }

    private static void tell(OneDrum x, String[][] texts, boolean inPlace) {
        for (int sort = 0; sort < 4; sort++) {
            for (int k = 0; k < 2; k++) {
                Check.text(x, sort, inPlace ? k : NONE, texts[sort][k]);
            }
        }
    }

    private static OneDrum plain() {
        OneDrum x = new OneDrum();
        tell(x, TEXTS, false);
        return x;
    }

    /** An object that was told the same in the end. */
    private interface History {
        OneDrum lived();
    }

    private static void answersAsPlain(History history, boolean backwards) {
        List<Ask> all = asks();
        if (backwards) {
            Collections.reverse(all);
        }
        OneDrum x = history.lived();
        for (int i = 0; i < all.size(); i++) {
            if (i % ASKS_AT_ONCE == 0) {
                x = history.lived();
            }
            CHECK.due(all.get(i).toString(), all.get(i).of(x), all.get(i).of(plain()));
        }
    }

    @Says(in = "Not promised", words = "Nothing is promised beyond the answers and state changes described above")
    static void notPromised_whatIsAskedChangesNothing() {
        answersAsPlain(StateBoundsTest::plain, false);
        answersAsPlain(StateBoundsTest::plain, true);
    }

    /** What a call of the document is given, by name: war, score and so on. */
    private static String[] namesOf(String call) {
        for (String each : new Document().calls()) {
            if (each.contains(" " + call + "(")) {
                return each.replaceAll(".*\\(|\\)|int |boolean ", "").split(", ");
            }
        }
        throw new IllegalStateException("the document has no " + call);
    }

    /** Of each sort the one alone that a call names, as the first one. */
    private static Ask ofThoseAlone(Ask ask, OneDrum x) {
        Object[] given = ask.given().clone();
        String[] names = namesOf(ask.method().getName());
        for (int i = 0; i < given.length; i++) {
            int sort = List.of("war", "score", "hearing", "villages").indexOf(names[i]);
            if (sort >= 0) {
                Check.text(x, sort, NONE, TEXTS[sort][(Integer) given[i]]);
                given[i] = 0;
            }
        }
        return new Ask(ask.method(), given);
    }

    @Says(in = "Term 1", words = {"WARS, at most 2 (sort 0), SCORES, at most 2 (1), HEARINGS, at most 2 (2), ",
        "rows of VILLAGES, at most 2 (3), from 0 on"})
    static void term1_eachCallGoesByThoseThatItNames() {
        for (Ask ask : asks()) {
            boolean ofOthers = List.of("count", "fault").contains(ask.method().getName());
            if (!ofOthers) {
                OneDrum x = new OneDrum();
                long alone = ofThoseAlone(ask, x).of(x);
                CHECK.due(ask.toString(), ask.of(plain()), alone);
            }
        }
    }

    private static OneDrum inPlaceOfFull() {
        OneDrum x = new OneDrum();
        tell(x, FULL, false);
        for (Ask ask : asks().subList(0, 60)) {
            ask.of(x);
        }
        tell(x, TEXTS, true);
        return x;
    }

    @Says(in = "Promise 4", words = "or in the place of one: its number")
    static void promise4_nothingIsLeftOfWhatStoodInThePlace() {
        for (int sort = 0; sort < 4; sort++) {
            CHECK.fine(sort, FULL[sort][0]);
            CHECK.fine(sort, FULL[sort][1]);
        }
        answersAsPlain(StateBoundsTest::inPlaceOfFull, false);
    }

    private static OneDrum behindFaults() {
        OneDrum x = new OneDrum();
        for (int sort = 0; sort < 4; sort++) {
            for (int k = 0; k < 2; k++) {
                Check.text(x, sort, NONE, FULL[sort][k] + "x");
                Check.text(x, sort, NONE, TEXTS[sort][k]);
                Check.text(x, sort, k, FULL[sort][1 - k] + "#");
                Check.text(x, sort, 2, FULL[sort][k]);
            }
            Check.text(x, sort, NONE, FULL[sort][0]);
        }
        return x;
    }

    @Says(in = "Promise 4", words = {"NONE: a FAULT", "(no text is read then, FAULT 0)"})
    static void promise4_nothingIsLeftOfFaultsAndOfWhatWasRefused() {
        answersAsPlain(StateBoundsTest::behindFaults, false);
    }

    private static OneDrum againAsBefore() {
        OneDrum x = plain();
        x.image(1);
        tell(x, FULL, true);
        x.image(0);
        for (Ask ask : asks().subList(60, 120)) {
            ask.of(x);
        }
        x.again(1);
        return x;
    }

    @Says(in = "Promise 32", words = "All that is as image k has it")
    static void promise32_allIsAnsweredAsTheImageHasIt() {
        answersAsPlain(StateBoundsTest::againAsBefore, false);
    }
}
