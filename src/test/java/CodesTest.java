/** Promises 19 to 21, 23, 24, 27, 28: orders as codes, and what villages make of the drum. */
public final class CodesTest {
    private static final int NONE = OneDrum.NONE;
    private static final Check CHECK = new Check();

    public static void main(String[] args) {
        farness();
        codes();
        shared();
        versions();
        tales();
        readings();
        unique();
        CHECK.finish();
    }

    private static OneDrum war(String text) {
        return Check.with(text, "");
    }

    private static void farness() {
        OneDrum x = war("order 0 left tap flam roll rest;order 0 left flam roll rest tap;order 0 left rest;"
            + "order 0 left tap tap;order 1 left tap;");
        int[][] due = {{0, 2, 3, 3}, {2, 0, 3, 3}, {3, 3, 0, 2}, {3, 3, 2, 0}};
        for (int a = 0; a < 4; a++) {
            for (int b = 0; b < 4; b++) {
                CHECK.due("far(" + a + ", " + b + ")", x.far(0, 0, a, b), due[a][b]);
            }
        }
        CHECK.due("none such", x.far(1, 0, 0, 0), NONE);
        CHECK.due("none such", x.far(0, 2, 0, 0), NONE);
        CHECK.due("none such", x.far(0, -1, 0, 0), NONE);
        CHECK.due("none such", x.far(0, 0, 4, 0), NONE);
        CHECK.due("none such", x.far(0, 0, 0, 4), NONE);
        CHECK.due("none such", x.far(0, 0, -1, 0), NONE);
        CHECK.due("none such", x.far(0, 1, 0, 1), NONE);
        CHECK.due("itself", x.far(0, 1, 0, 0), 0);
    }

    private static void codes() {
        OneDrum x = war("order 0 left tap;order 0 left tap tap;order 0 left tap;order 1 left tap flam;"
            + "order 1 right roll roll roll;order 1 left tap;order 1 halt rest roll roll;");
        CHECK.due("no unlike moves", x.codes(0, 0, 0), NONE);
        CHECK.due("heads", x.codes(0, 0, 1), 3);
        CHECK.due("safe", x.codes(0, 1, 0), 1);
        CHECK.due("heads", x.codes(0, 1, 1), 1);
        CHECK.due("another what", x.codes(0, 0, 2), -2);
        CHECK.due("another what", x.codes(0, 0, -1), -2);
        CHECK.due("none such", x.codes(1, 0, 0), -2);
        CHECK.due("none such", x.codes(0, 2, 0), -2);
        CHECK.due("none such", x.codes(0, -1, 1), -2);
        Check.text(x, 0, 0, "order 0 left tap;order 0 right tap;order 1 left tap rest;order 1 right flam roll;");
        CHECK.due("like beats, unlike moves", x.codes(0, 0, 0), 0);
        CHECK.due("safe", x.codes(0, 1, 0), 2);
        CHECK.due("no heads", x.codes(0, 1, 1), 0);
    }

    private static void shared() {
        OneDrum x = war("order 0 left tap;order 0 right flam tap;order 0 halt tap;"
            + "order 1 left roll;order 1 left tap;order 1 left tap;order 1 left flam tap;");
        int[] due = {1, 2, 9, 13, 14};
        CHECK.due("how many", x.shared(0, NONE), 5);
        for (int k = 0; k < 5; k++) {
            CHECK.due("shared " + k, x.shared(0, k), due[k]);
        }
        CHECK.due("none such", x.shared(0, 5), NONE);
        CHECK.due("none such", x.shared(0, -2), NONE);
        CHECK.due("none such", x.shared(1, NONE), NONE);
        CHECK.due("none such", x.shared(-1, NONE), NONE);
        CHECK.due("none", war("").shared(0, NONE), 0);
        CHECK.due("none", war("").shared(0, 0), NONE);
    }

    private static void version(OneDrum x, int v, int... due) {
        CHECK.due("version " + v + " length", x.version(0, 0, 0, v, NONE), due.length);
        for (int k = 0; k < due.length; k++) {
            CHECK.due("version " + v + " beat " + k, x.version(0, 0, 0, v, k), due[k]);
        }
        CHECK.due("version " + v + " beyond", x.version(0, 0, 0, v, due.length), NONE);
    }

    private static void versions() {
        OneDrum x = Check.with("tired 3;", "gives 0 tap flam tap roll;gives 1 flam flam;");
        // given 1 2 2 2 1 3, played 1 2 0 2 1 0
        Check.text(x, 3, NONE, "drop 8 2;swap 0 tap rest;twice 8 flam;last 2;drop 3 1;last 4;swap 8 roll tap;drop 8 9;");
        version(x, 0, 1, 0, 1);
        version(x, 1, 0, 1, 0);
        version(x, 2, 1, 2, 2, 0, 2, 2, 1, 0);
        version(x, 3, 1, 2, 2, 0, 2, 2, 1);
        version(x, 4);
        version(x, 5);
        version(x, 6, 3, 2, 0, 2, 3, 0);
        version(x, 7, 1, 2, 0, 2, 1, 0);
        CHECK.due("none such", x.version(0, 0, 0, 8, NONE), NONE);
        CHECK.due("none such", x.version(0, 0, 0, -1, NONE), NONE);
        CHECK.due("none such", x.version(0, 0, 0, 0, -2), NONE);
        CHECK.due("none such", x.version(1, 0, 0, 0, NONE), NONE);
        CHECK.due("none such", x.version(0, 1, 0, 0, NONE), NONE);
        CHECK.due("none such", x.version(0, 0, 1, 0, NONE), NONE);
        CHECK.due("none such", x.version(0, 0, -1, 0, NONE), NONE);
        OneDrum y = Check.with("", "gives 0 tap tap tap tap tap tap tap tap tap tap tap roll;"
            + "gives 1 tap tap tap tap tap tap tap tap tap tap tap flam;");
        Check.text(y, 3, NONE, "twice 8 tap;twice 0 tap;twice 1 roll;last 1;");
        CHECK.due("46", y.version(0, 0, 0, 0, NONE), 46);
        CHECK.due("60 at most", y.version(0, 0, 0, 1, NONE), 60);
        CHECK.due("what is more is lost", y.version(0, 0, 0, 1, 59), 1);
        CHECK.due("60 still", y.version(0, 0, 0, 2, NONE), 60);
        CHECK.due("59", y.version(0, 0, 0, 3, NONE), 59);
        CHECK.due("farness of 60", y.tale(0, 0, 0, 1, false), 38);
    }

    private static void tales() {
        OneDrum x = Check.with("tired 3;", "gives 0 tap flam tap roll;gives 1 flam flam;");
        Check.text(x, 3, NONE, "drop 8 2;swap 0 tap rest;twice 8 flam;last 2;drop 3 1;last 4;swap 8 roll tap;drop 8 9;");
        int[] far = {3, 3, 2, 3, 6, 6, 2, 0};
        int[] likes = {1, 2, 4, 8, 48, 48, 64, 128};
        for (int v = 0; v < 8; v++) {
            CHECK.due("farness " + v, x.tale(0, 0, 0, v, false), far[v]);
            CHECK.due("likes " + v, x.tale(0, 0, 0, v, true), likes[v]);
        }
        CHECK.due("none such", x.tale(0, 0, 0, 8, true), NONE);
        CHECK.due("none such", x.tale(0, 0, 0, -1, false), NONE);
        CHECK.due("none such", x.tale(1, 0, 0, 0, true), NONE);
        CHECK.due("none such", x.tale(0, 1, 0, 0, true), NONE);
        CHECK.due("none such", x.tale(0, 0, 1, 0, true), NONE);
    }

    private static void read(String war, String score, long ways, long few) {
        OneDrum x = Check.with(war, score);
        CHECK.due(war + score + " ways", x.readings(0, 0, 0, false), ways);
        CHECK.due(war + score + " few", x.readings(0, 0, 0, true), few);
    }

    private static void readings() {
        read("", "", 1, 0);
        read("", "gives 0 tap;", 0, NONE);
        read("order 0 left tap;order 0 left tap tap;", "gives 0 tap tap tap tap;", 5, 2);
        read("order 0 left tap;order 0 right tap;", "gives 0 tap tap tap;", 8, 3);
        read("order 0 left tap tap;", "gives 0 tap tap tap;", 0, NONE);
        read("order 0 left tap tap tap;order 0 left tap tap;", "gives 0 tap tap tap tap;", 1, 2);
        read("order 0 left tap;from 0 1;", "gives 0 flam tap;", 1, 1);
        String six = "order 0 left tap;order 0 left tap;order 0 left tap;order 0 left tap;order 0 left tap;order 0 left tap;";
        String long24 = "gives 0 tap tap tap tap tap tap tap tap tap tap tap tap;"
            + "gives 1 tap tap tap tap tap tap tap tap tap tap tap tap;";
        read(six, long24, 4738381338321616896L, 24);
        OneDrum x = Check.with("order 1 left tap;", "gives 0 tap;");
        CHECK.due("army 1", x.readings(0, 0, 1, false), 1);
        CHECK.due("none such", x.readings(1, 0, 1, false), -2);
        CHECK.due("none such", x.readings(0, 1, 1, false), -2);
        CHECK.due("none such", x.readings(0, 0, 2, true), -2);
        CHECK.due("none such", x.readings(0, 0, -1, true), -2);
    }

    private static void onlyOne(String war, int twofold) {
        OneDrum x = war(war);
        CHECK.due(war + " unique", x.unique(0, 0, false), twofold == NONE ? 1 : 0);
        CHECK.due(war + " twofold", x.unique(0, 0, true), twofold);
    }

    private static void unique() {
        onlyOne("", NONE);
        onlyOne("order 0 left tap tap;", NONE);
        onlyOne("order 0 left tap;order 0 left tap;", 1);
        onlyOne("order 0 left tap flam;order 0 right roll;order 0 left tap flam;", 2);
        onlyOne("order 0 left tap;order 0 left tap tap;", 2);
        onlyOne("order 0 left tap tap;order 0 left tap tap tap;", 5);
        onlyOne("order 0 left tap tap tap;order 0 left tap tap tap tap;", 7);
        onlyOne("order 0 left tap;order 0 left tap flam;order 0 left flam flam;", NONE);
        onlyOne("order 0 left tap;order 0 left tap flam;order 0 left flam flam;order 0 left flam roll;order 0 left roll;", 3);
        onlyOne("order 0 left tap;order 0 left flam tap;order 0 left tap flam;", 3);
        // tap flam | roll rest tap | flam .. against tap | flam roll rest | ..
        onlyOne("order 0 left tap flam;order 0 left tap;order 0 left flam roll rest;order 0 left roll rest tap;"
            + "order 0 left tap tap;", 2);
        onlyOne("order 0 left tap tap flam;order 0 left tap;order 0 left flam tap flam tap;", NONE);
        onlyOne("order 0 left tap tap flam;order 0 left tap tap;order 0 left flam tap;order 0 left tap roll;"
            + "order 0 left roll;", 5);
        OneDrum x = war("order 1 left tap;order 1 left tap;");
        CHECK.due("army 0", x.unique(0, 0, false), 1);
        CHECK.due("army 1", x.unique(0, 1, false), 0);
        CHECK.due("none such", x.unique(1, 0, false), -2);
        CHECK.due("none such", x.unique(0, 2, true), -2);
        CHECK.due("none such", x.unique(0, -1, true), -2);
    }
}
