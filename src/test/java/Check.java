import java.nio.charset.StandardCharsets;

/** What the tests share: feeding texts, and counting the answers that are not due. */
final class Check {
    private int wrong = 0;
    private int asked = 0;

    void due(String call, long got, long want) {
        asked++;
        if (got != want) {
            wrong++;
            System.out.println(call + " answered " + got + ", due is " + want);
        }
    }

    void due(String call, boolean got, boolean want) {
        due(call, got ? 1 : 0, want ? 1 : 0);
    }

    void finish() {
        System.out.println(asked + " answers, " + wrong + " not as due");
        if (wrong != 0) {
            System.exit(1);
        }
    }

    static void feed(OneDrum drum, byte[] bytes) {
        for (int from = 0; from < bytes.length; from += 20) {
            int[] five = new int[5];
            for (int i = 0; i < 20; i++) {
                int b = from + i < bytes.length ? bytes[from + i] & 255 : 0;
                five[i / 4] = five[i / 4] << 8 | b;
            }
            drum.feed(five[0], five[1], five[2], five[3], five[4]);
        }
        drum.end(bytes.length);
    }

    /** Feeds a text to an empty tape and has it taken. */
    static int text(OneDrum drum, int sort, int at, String text) {
        feed(drum, text.getBytes(StandardCharsets.ISO_8859_1));
        return drum.text(sort, at);
    }

    static OneDrum with(String war, String score) {
        OneDrum drum = new OneDrum();
        text(drum, 0, OneDrum.NONE, war);
        text(drum, 1, OneDrum.NONE, score);
        return drum;
    }
}
