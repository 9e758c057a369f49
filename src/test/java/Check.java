import java.nio.charset.StandardCharsets;
import java.util.stream.IntStream;

/** What the tests share: feeding texts, and counting the answers that are not due. */
final class Check {
    private int wrong = 0;
    private int asked = 0;
    private String of = "";

    /** What the next answers are of; it is told with each one that is not due. */
    void of(String sentence) {
        of = sentence + ": ";
    }

    int asked() {
        return asked;
    }

    void due(String call, long got, long want) {
        asked++;
        if (got != want) {
            wrong++;
            System.out.println(of + call + " answered " + got + ", due is " + want);
        }
    }

    void due(String call, boolean got, boolean want) {
        due(call, got ? 1 : 0, want ? 1 : 0);
    }

    void finish() {
        System.out.println(asked + " answers, " + wrong + " not as due");
        if (wrong != 0) {
            System.exit(1);
        }
    }

    /** A text of a sort without a fault; the object that was told it, as its first one. */
    OneDrum fine(int sort, String text) {
        OneDrum x = new OneDrum();
        due("'" + text + "'", text(x, sort, OneDrum.NONE, text), 0);
        due("'" + text + "' fault", x.fault(0), 0);
        due("'" + text + "' its place", x.fault(1), OneDrum.NONE);
        due("'" + text + "' count", x.count(sort), 1);
        return x;
    }

    /** A text of a sort with a fault: nothing is told by it. */
    void faulty(int sort, String text, int fault, int place) {
        OneDrum x = new OneDrum();
        due("'" + text + "'", text(x, sort, OneDrum.NONE, text), OneDrum.NONE);
        due("'" + text + "' fault", x.fault(0), fault);
        due("'" + text + "' its place", x.fault(1), place);
        due("'" + text + "' count", x.count(sort), 0);
    }

    /** Numbers that are none of least .. most (which are small), near them and far off. */
    static int[] outside(int least, int most) {
        return new int[] {least - 1, least - 2, most + 1, most + 2, most + 10, 100, 256 + most, 65536 + most,
            Integer.MIN_VALUE, Integer.MIN_VALUE + most, Integer.MAX_VALUE};
    }

    /** Numbers from -20 to 130, and far off, but these. */
    static int[] but(int... these) {
        IntStream far = IntStream.of(256, 1000, 65536, Integer.MIN_VALUE,
            Integer.MIN_VALUE + 10, Integer.MIN_VALUE + 20, Integer.MAX_VALUE, Integer.MAX_VALUE - 5);
        return IntStream.concat(IntStream.rangeClosed(-20, 130), far)
            .filter(n -> IntStream.of(these).noneMatch(t -> t == n)).toArray();
    }

    static void feed(OneDrum drum, byte[] bytes) {
        for (int from = 0; from < bytes.length; from += 20) {
            int[] five = new int[5];
            for (int i = 0; i < 20; i++) {
                int b = from + i < bytes.length ? bytes[from + i] & 255 : 0;
                five[i / 4] = five[i / 4] << 8 | b;
            }
            drum.feed(five[0], five[1], five[2], five[3], five[4]);
        }
        drum.end(bytes.length);
    }

    /** Feeds a text to an empty tape and has it taken. */
    static int text(OneDrum drum, int sort, int at, String text) {
        feed(drum, text.getBytes(StandardCharsets.ISO_8859_1));
        return drum.text(sort, at);
    }

    static OneDrum with(String war, String score) {
        OneDrum drum = new OneDrum();
        text(drum, 0, OneDrum.NONE, war);
        text(drum, 1, OneDrum.NONE, score);
        return drum;
    }

    static OneDrum withHearing(String war, String score, String hearing) {
        OneDrum drum = with(war, score);
        text(drum, 2, OneDrum.NONE, hearing);
        return drum;
    }

    static OneDrum withVillages(String war, String score, String villages) {
        OneDrum drum = with(war, score);
        text(drum, 3, OneDrum.NONE, villages);
        return drum;
    }

    /** A word so many times, a blank ahead of each. */
    static String times(int many, String word) {
        return (" " + word).repeat(many);
    }

    /** A score's text: what both givers gave. */
    static String gives(String zero, String one) {
        return gives(0, zero) + gives(1, one);
    }

    private static String gives(int giver, String beats) {
        return beats.isBlank() ? "" : "gives " + giver + " " + beats.strip() + ";";
    }
}
