/** Promises 9 to 13, 25, 26: what is played, heard and made of it, and how they march. */
public final class PlayTest {
    private static final int NONE = OneDrum.NONE;
    private static final Check CHECK = new Check();
    private static final String WAR = "turn 2;tired 4;echo 1;wet roll flam;from 0 1;step 0 2;step 1 3;"
        + "order 0 left tap;order 0 right flam rest;order 0 charge flam rest;order 1 charge rest;";
    private static final String SCORE = "gives 0 tap flam roll;gives 1 rest roll rest tap flam;";

    public static void main(String[] args) {
        rows();
        echoes();
        hearing();
        making();
        longestAndLeast();
        wrongCalls();
        marching();
        meeting();
        evenings();
        commons();
        CHECK.finish();
    }

    private static void rows() {
        OneDrum x = Check.with(WAR, SCORE);
        int[][] due = {{1, 0, 1, 0}, {2, 0, 2, 0}, {0, 1, 1, 1}, {3, 1, 0, 0}, {3, 0, 2, 0}, {0, 1, 1, 1},
            {1, 1, 1, 0}, {2, 1, 0, 0}};
        CHECK.due("row's length", x.row(0, 0, NONE, 0), 8);
        for (int k = 0; k < 8; k++) {
            for (int what = 0; what < 4; what++) {
                CHECK.due("row(0, 0, " + k + ", " + what + ")", x.row(0, 0, k, what), due[k][what]);
            }
        }
        OneDrum y = Check.with("turn 3;", "gives 1 tap flam tap flam tap flam tap;gives 0 roll;");
        int[] givers = {0, 1, 1, 1, 1, 1, 1, 1};
        for (int k = 0; k < 8; k++) {
            CHECK.due("giver", y.row(0, 0, k, 1), givers[k]);
        }
        OneDrum z = Check.with("tired 1;wet rest roll;", "gives 0 tap rest;");
        CHECK.due("a tired rest is wet too", z.row(0, 0, 0, 2), 3);
        CHECK.due("a rest is wet", z.row(0, 0, 1, 2), 3);
        CHECK.due("no score", Check.with("", "gives 0 7;").row(0, 0, NONE, 0), -2);
        CHECK.due("an empty row", Check.with("", "").row(0, 0, NONE, 0), 0);
    }

    private static void echoes() {
        OneDrum x = Check.with("echo 2;", "gives 0 flam rest rest rest rest flam;");
        int[] due = {2, 0, 1, 0, 0, 2};
        for (int k = 0; k < 6; k++) {
            CHECK.due("played", x.row(0, 0, k, 2), due[k]);
            CHECK.due("echo", x.row(0, 0, k, 3), k == 2 ? 1 : 0);
        }
        OneDrum y = Check.with("echo 1;", "gives 0 flam tap flam rest;");
        CHECK.due("no rest there", y.row(0, 0, 1, 3), 0);
        CHECK.due("an echo", y.row(0, 0, 3, 3), 1);
        CHECK.due("its tap", y.row(0, 0, 3, 2), 1);
        OneDrum z = Check.with("echo 1;wet flam tap;wet roll rest;wet tap flam;", "gives 0 flam roll tap roll;");
        CHECK.due("a flam that sounds otherwise", z.row(0, 0, 1, 3), 0);
        CHECK.due("what sounds as a flam", z.row(0, 0, 3, 3), 1);
        CHECK.due("an echo is no wet tap", z.row(0, 0, 3, 2), 1);
    }

    private static void hearing() {
        OneDrum x = Check.with(WAR, SCORE);
        int[] zero = {2, 0, 1, 0};
        int[] one = {1, 0, 1};
        CHECK.due("heard by 0", x.heard(0, 0, 0, NONE), 4);
        CHECK.due("heard by 1", x.heard(0, 0, 1, NONE), 3);
        for (int k = 0; k < 4; k++) {
            CHECK.due("heard by 0", x.heard(0, 0, 0, k), zero[k]);
        }
        for (int k = 0; k < 3; k++) {
            CHECK.due("heard by 1", x.heard(0, 0, 1, k), one[k]);
        }
        OneDrum y = Check.with("from 0 3;", "gives 0 tap tap tap;");
        CHECK.due("nothing heard", y.heard(0, 0, 0, NONE), 0);
        CHECK.due("all heard", y.heard(0, 0, 1, NONE), 3);
    }

    private static void making() {
        OneDrum x = Check.with(WAR, SCORE);
        CHECK.due("moves", x.made(0, 0, 0, NONE, 0), 2);
        CHECK.due("danced", x.made(0, 0, 0, NONE, 1), 1);
        CHECK.due("echoed", x.made(0, 0, 0, NONE, 2), 1);
        int[][] due = {{2, 1, 1, 1}, {1, 5, 0, 2}};
        for (int k = 0; k < 2; k++) {
            for (int what = 0; what < 4; what++) {
                CHECK.due("made by 0: " + k + ", " + what, x.made(0, 0, 0, k, what), due[k][what]);
            }
        }
        CHECK.due("moves", x.made(0, 0, 1, NONE, 0), 1);
        CHECK.due("danced", x.made(0, 0, 1, NONE, 1), 2);
        CHECK.due("echoed", x.made(0, 0, 1, NONE, 2), 0);
        int[] one = {3, 3, 0, 0};
        for (int what = 0; what < 4; what++) {
            CHECK.due("made by 1: " + what, x.made(0, 0, 1, 0, what), one[what]);
        }
    }

    private static void longestAndLeast() {
        OneDrum x = Check.with("order 0 left tap;order 0 right tap tap;order 0 halt tap tap;"
            + "order 0 charge tap tap tap flam;", "gives 0 tap tap tap tap flam flam tap;");
        int[] moves = {2, 2, 1};
        int[] places = {0, 2, 6};
        CHECK.due("moves", x.made(0, 0, 0, NONE, 0), 3);
        CHECK.due("danced", x.made(0, 0, 0, NONE, 1), 2);
        for (int k = 0; k < 3; k++) {
            CHECK.due("move", x.made(0, 0, 0, k, 0), moves[k]);
            CHECK.due("place", x.made(0, 0, 0, k, 1), places[k]);
            CHECK.due("pure", x.made(0, 0, 0, k, 3), 0);
        }
        CHECK.due("order", x.made(0, 0, 0, 0, 2), 1);
        CHECK.due("army 1 has none", x.made(0, 0, 1, NONE, 0), 0);
        CHECK.due("it danced", x.made(0, 0, 1, NONE, 1), 7);
    }

    private static void wrongCalls() {
        OneDrum x = Check.with(WAR, SCORE);
        int[][] none = {{1, 0}, {-1, 0}, {0, 1}, {0, -1}, {2, 2}, {Integer.MAX_VALUE, Integer.MIN_VALUE}};
        for (int[] pair : none) {
            CHECK.due("row", x.row(pair[0], pair[1], NONE, 0), -2);
            CHECK.due("heard", x.heard(pair[0], pair[1], 0, NONE), NONE);
            CHECK.due("made", x.made(pair[0], pair[1], 0, NONE, 0), -2);
            CHECK.due("march", x.march(pair[0], pair[1], 0, 0), -1000);
            CHECK.due("meets", x.meets(pair[0], pair[1]), NONE);
            CHECK.due("drawn", x.drawn(pair[0], pair[1], 1, 1, 0), NONE);
            CHECK.due("common", x.common(pair[0], pair[1], 0), NONE);
        }
        CHECK.due("row k", x.row(0, 0, 8, 0), -2);
        CHECK.due("row k", x.row(0, 0, -2, 0), -2);
        CHECK.due("row what", x.row(0, 0, 0, 4), -2);
        CHECK.due("row what", x.row(0, 0, 0, -1), -2);
        CHECK.due("row what", x.row(0, 0, NONE, 1), -2);
        CHECK.due("heard k", x.heard(0, 0, 0, 4), NONE);
        CHECK.due("heard k", x.heard(0, 0, 0, -2), NONE);
        CHECK.due("made k", x.made(0, 0, 0, 2, 0), -2);
        CHECK.due("made k", x.made(0, 0, 0, -2, 0), -2);
        CHECK.due("made what", x.made(0, 0, 0, 0, 4), -2);
        CHECK.due("made what", x.made(0, 0, 0, 0, -1), -2);
        CHECK.due("made what", x.made(0, 0, 0, NONE, 3), -2);
        CHECK.due("made what", x.made(0, 0, 0, NONE, -1), -2);
        for (int army = -1; army <= 2; army += 3) {
            CHECK.due("heard army", x.heard(0, 0, army, NONE), NONE);
            CHECK.due("made army", x.made(0, 0, army, NONE, 0), -2);
            CHECK.due("march army", x.march(0, 0, army, 0), -1000);
        }
        CHECK.due("march t", x.march(0, 0, 0, -1), -1000);
        CHECK.due("march t", x.march(0, 0, 0, 25), -1000);
        for (int what : new int[] {-1, 2, 9, 15, 19, 25, 30, Integer.MIN_VALUE, Integer.MAX_VALUE}) {
            CHECK.due("drawn what", x.drawn(0, 0, 1, 1, what), NONE);
        }
        CHECK.due("drawn n", x.drawn(0, 0, 1, -1, 0), NONE);
        CHECK.due("drawn n", x.drawn(0, 0, 1, 41, 0), NONE);
        CHECK.due("common what", x.common(0, 0, -1), NONE);
        CHECK.due("common what", x.common(0, 0, 3), NONE);
    }

    private static void walk(String war, String score, int army, int... due) {
        OneDrum x = Check.with(war, score);
        for (int t = 0; t <= 24; t++) {
            int want = due[Math.min(t, due.length - 1)];
            CHECK.due(war + " march of " + army + " at " + t, x.march(0, 0, army, t), want);
        }
    }

    private static void marching() {
        String moves = "order 0 left rest;order 0 right tap;order 0 charge flam;order 0 retreat roll;"
            + "order 1 right rest;order 1 left tap;order 1 retreat flam;order 1 charge roll;";
        walk(moves, "", 0, 0);
        walk(moves, "", 1, 10);
        walk(moves, "gives 0 rest tap tap flam roll;", 0, 0, -1, 0, 1, 3, 1);
        walk(moves, "gives 0 rest tap tap flam roll;", 1, 10, 11, 10, 9, 11, 9);
        walk(moves + "lag 0 2;lag 1 3;", "gives 0 rest flam;", 0, 0, 0, 0, -1, 1);
        walk(moves + "lag 0 2;lag 1 3;", "gives 0 rest flam;", 1, 10, 10, 10, 10, 11, 13);
        String same = moves + "place 0 4;place 1 4;";
        walk(same, "gives 0 flam;", 0, 4, 4);
        walk(same, "gives 0 flam;", 1, 4, 6);
        walk(same, "gives 0 roll;", 0, 4, 2);
        walk(same, "gives 0 roll;", 1, 4, 4);
        String turned = moves + "place 0 9;place 1 4;";
        walk(turned, "gives 0 flam;", 0, 9, 7);
        walk(turned, "gives 0 flam;", 1, 4, 2);
        walk(turned, "gives 0 roll;", 0, 9, 11);
        walk(turned, "gives 0 roll;", 1, 4, 6);
    }

    private static void meet(String war, String score, int due) {
        CHECK.due(war + " meets", Check.with(war, score).meets(0, 0), due);
    }

    private static void meeting() {
        meet("place 1 0;", "", 0);
        meet("", "", NONE);
        meet("place 1 2;order 0 charge tap;", "gives 0 tap;", 1);
        meet("place 1 1;order 0 charge tap;", "gives 0 tap;", 1);
        meet("place 1 1;order 0 right tap;order 1 left tap;", "gives 0 tap;", 1);
        meet("place 1 3;order 0 right tap;order 1 left tap;", "gives 0 tap;", NONE);
        meet("place 1 3;order 0 right tap;order 1 left tap;", "gives 0 tap tap;", 2);
        meet("place 1 3;lag 0 3;order 0 charge tap;", "gives 0 tap tap;", 5);
        meet("place 0 5;place 1 2;order 0 charge tap;", "gives 0 tap tap;", 2);
        meet("place 1 20;order 0 right tap;",
            "gives 0 tap tap tap tap tap tap tap tap tap tap tap tap;gives 1 tap tap tap tap tap tap tap tap;", 20);
    }

    private static int draw(int[] x) {
        x[0] = x[0] * 1103515245 + 12345;
        return (x[0] >>> 16) % 8;
    }

    private static void evenings() {
        String war = "order 0 left tap;order 1 left tap;order 1 charge rest;place 1 3;";
        OneDrum x = Check.with(war, "gives 0 tap tap;gives 1 rest;");
        CHECK.due("no evenings", x.drawn(0, 0, 5, 0, 0), 0);
        CHECK.due("no evenings", x.drawn(0, 0, 5, 0, 10), 0);
        for (int seed : new int[] {0, 1, -1, 77, 123456789, Integer.MIN_VALUE, Integer.MAX_VALUE}) {
            for (int n = 1; n <= 40; n += 13) {
                int[] draws = {seed};
                int[] made = new int[3];
                for (int place = 0; place < 3 * n; place++) {
                    boolean wind = draw(draws) == 0;
                    boolean rest = wind || place % 3 == 1;
                    made[0] += rest ? 0 : 1;
                    made[1] += rest ? 0 : 1;
                    made[2] += rest ? 1 : 0;
                }
                CHECK.due("left by 0", x.drawn(0, 0, seed, n, 11), made[0]);
                CHECK.due("left by 1", x.drawn(0, 0, seed, n, 21), made[1]);
                CHECK.due("charge by 1", x.drawn(0, 0, seed, n, 23), made[2]);
                CHECK.due("retreat by 1", x.drawn(0, 0, seed, n, 24), 0);
                CHECK.due("halt by 0", x.drawn(0, 0, seed, n, 10), 0);
                CHECK.due("the same", x.drawn(0, 0, seed, n, 0), 0);
            }
        }
        OneDrum y = Check.with("order 0 charge tap;order 1 charge tap;place 1 8;", "gives 0 tap tap;");
        int[] draws = {1};
        int met = 0;
        for (int evening = 0; evening < 40; evening++) {
            boolean first = draw(draws) != 0;
            boolean second = draw(draws) != 0;
            met += first && second ? 1 : 0;
        }
        CHECK.due("they meet", y.drawn(0, 0, 1, 40, 1), met);
        CHECK.due("the same", y.drawn(0, 0, 1, 40, 0), 40);
    }

    private static void commons() {
        OneDrum x = Check.with("from 1 1;step 1 2;", "gives 0 tap flam roll flam tap roll roll;");
        // 0 hears 1 2 3 2 1 3 3, 1 hears 2 2 3
        CHECK.due("common", x.common(0, 0, 0), 2);
        CHECK.due("from", x.common(0, 0, 1), 1);
        CHECK.due("period", x.common(0, 0, 2), 7);
        OneDrum y = Check.with("from 0 1;step 0 2;step 1 2;", "gives 0 tap flam tap flam tap;");
        CHECK.due("none", y.common(0, 0, 0), 0);
        CHECK.due("from 0 then", y.common(0, 0, 1), 0);
        CHECK.due("period", y.common(0, 0, 2), 2);
        OneDrum z = Check.with("from 0 1;", "gives 0 tap tap tap;");
        CHECK.due("common", z.common(0, 0, 0), 2);
        CHECK.due("from the first of its own", z.common(0, 0, 1), 0);
        CHECK.due("period", z.common(0, 0, 2), 1);
        CHECK.due("period is of what is played",
            Check.with("tired 2;", "gives 0 tap flam tap roll tap;").common(0, 0, 2), 2);
        OneDrum e = Check.with("", "");
        CHECK.due("empty", e.common(0, 0, 0), 0);
        CHECK.due("empty", e.common(0, 0, 1), 0);
        CHECK.due("empty", e.common(0, 0, 2), 0);
    }
}
