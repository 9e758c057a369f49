import java.util.Collections;

/** Promises 1 to 8, 15, 22, 30 to 32: what is told, as texts, and what is kept of it. */
public final class TextsTest {
    private static final int NONE = OneDrum.NONE;
    private static final Check CHECK = new Check();

    public static void main(String[] args) {
        newObject();
        feeding();
        faultsOfWars();
        faultsOfScores();
        faultsOfHearings();
        faultsOfVillages();
        places();
        wars();
        orders();
        scores();
        hearings();
        villages();
        images();
        CHECK.finish();
    }

    private static String times(int many, String text) {
        return String.join("", Collections.nCopies(many, text));
    }

    private static void newObject() {
        OneDrum x = new OneDrum();
        for (int sort = 0; sort < 4; sort++) {
            CHECK.due("new: count", x.count(sort), 0);
        }
        CHECK.due("new: count(-1)", x.count(-1), -2);
        CHECK.due("new: count(4)", x.count(4), -2);
        CHECK.due("new: fault(0)", x.fault(0), 0);
        CHECK.due("new: fault(1)", x.fault(1), NONE);
        CHECK.due("new: fault(2)", x.fault(2), NONE);
        CHECK.due("new: fault(-1)", x.fault(-1), NONE);
        CHECK.due("new: end(0)", x.end(0), 0);
        CHECK.due("new: end(1)", x.end(1), NONE);
        for (int k = -1; k <= 3; k++) {
            CHECK.due("new: again", x.again(k), false);
        }
    }

    private static void feeding() {
        OneDrum x = new OneDrum();
        for (int n = 20; n <= 600; n += 20) {
            CHECK.due("feed", x.feed(0, 0, 0, 0, 0), n);
        }
        CHECK.due("feed to a full tape", x.feed(1, 1, 1, 1, 1), NONE);
        CHECK.due("nothing came", x.end(601), NONE);
        CHECK.due("end below 0", x.end(-1), NONE);
        CHECK.due("end min", x.end(Integer.MIN_VALUE), NONE);
        CHECK.due("end at all", x.end(600), 600);
        CHECK.due("end at 581", x.end(581), 581);
        CHECK.due("feed at 581", x.feed(0, 0, 0, 0, 0), NONE);
        CHECK.due("still 581", x.end(581), 581);
        CHECK.due("end at 580", x.end(580), 580);
        CHECK.due("feed at 580", x.feed(0, 0, 0, 0, 0), 600);
        CHECK.due("end at 0", x.end(0), 0);
        // "turn 3;tired 7;     ": the highest byte of each number comes first
        CHECK.due("feed", x.feed(0x7475726E, 0x20333B74, 0x69726564, 0x20373B20, 0x20202020), 20);
        CHECK.due("text", x.text(0, NONE), 0);
        CHECK.due("turn", x.war(0, 0), 3);
        CHECK.due("tired", x.war(0, 1), 7);
        CHECK.due("the tape is empty then", x.end(1), NONE);
        CHECK.due("negative numbers", x.feed(-1, -1, -1, -1, -1), 20);
        CHECK.due("bytes above 127", x.text(0, NONE), NONE);
        CHECK.due("their fault", x.fault(0), 1);
        CHECK.due("its place", x.fault(1), 0);
    }

    private static void faults(int sort, String text, int fault, int place) {
        OneDrum x = new OneDrum();
        int want = fault == 0 ? 0 : NONE;
        CHECK.due(text, Check.text(x, sort, NONE, text), want);
        CHECK.due(text + " fault", x.fault(0), fault);
        CHECK.due(text + " place", x.fault(1), fault == 0 ? NONE : place);
        CHECK.due(text + " count", x.count(sort), fault == 0 ? 1 : 0);
        CHECK.due(text + " tape", x.end(1), NONE);
    }

    private static void fine(int sort, String text) {
        faults(sort, text, 0, NONE);
    }

    private static void faultsOfWars() {
        fine(0, "");
        fine(0, " \n ");
        fine(0, "turn 1;turn 4;tired 0;tired 9;echo 0;echo 9;");
        fine(0, "turn2;tired\n03\n;echo 00 ; ");
        fine(0, "from 0 0;from 1 3;step 0 1;step 1 4;lag 0 0;lag 1 3;place 0 0;place 1 20;");
        fine(0, "wet tap tap;wet rest roll;order 0 halt rest;order 1 retreat tap flam roll rest;");
        fine(0, times(6, "order 0 left tap;") + times(6, "order 1 left tap;"));
        faults(0, "turn", 1, 4);
        faults(0, "turn 2", 1, 6);
        faults(0, "turn 2  \n", 1, 9);
        faults(0, "turn 2;tir", 1, 7);
        faults(0, "turn 0;", 2, 5);
        faults(0, "turn 5;", 2, 5);
        faults(0, "turn 004;", 1, 5);
        faults(0, "turn 100;", 1, 5);
        faults(0, "turn 2 2;", 1, 7);
        faults(0, "Turn 2;", 1, 0);
        faults(0, "turn\t2;", 1, 4);
        faults(0, "turn 2;;", 1, 7);
        faults(0, "turns 2;", 1, 0);
        faults(0, "turn -1;", 1, 5);
        faults(0, "turn tap;", 1, 5);
        faults(0, ";", 1, 0);
        faults(0, "7;", 1, 0);
        faults(0, "turn 2;\000", 1, 7);
        faults(0, "tired 10;", 2, 6);
        faults(0, "echo 10;", 2, 5);
        faults(0, "echo 99;", 2, 5);
        faults(0, "wet tap;", 1, 7);
        faults(0, "wet tap flam", 1, 12);
        faults(0, "wet left tap;", 1, 4);
        faults(0, "wet tap 2;", 1, 8);
        faults(0, "from 0 4;", 2, 7);
        faults(0, "from 2 0;", 2, 5);
        faults(0, "from 2 9;", 2, 5);
        faults(0, "from 0;", 1, 6);
        faults(0, "step 0 0;", 2, 7);
        faults(0, "step 1 5;", 2, 7);
        faults(0, "lag 0 4;", 2, 6);
        faults(0, "place 0 21;", 2, 8);
        faults(0, "place 10 1;", 2, 6);
        faults(0, "order 2 halt tap;", 2, 6);
        faults(0, "order halt tap;", 1, 6);
        faults(0, "order 0 tap;", 1, 8);
        faults(0, "order 0 halt;", 1, 12);
        faults(0, "order 0 halt left;", 1, 13);
        faults(0, "order;", 1, 5);
        faults(0, "order 0;", 1, 7);
        faults(0, "order 0 turn tap;", 1, 8);
        faults(0, "order 0 roll tap;", 1, 8);
        faults(0, "order 0 left halt;", 1, 13);
        faults(0, "wet halt tap;", 1, 4);
        faults(0, "wet;", 1, 3);
        faults(0, "turn;", 1, 4);
        faults(0, "from;", 1, 4);
        faults(0, times(600, ";"), 1, 0);
        faults(0, times(66, "tired 3; ") + "turn 2", 1, 600);
        fine(0, times(66, "tired 3; ") + "turn2;");
        faults(0, "order 0 halt tap tap tap tap tap;", 3, 29);
        faults(0, "order 0 halt tap tap tap tap tap tap;", 3, 29);
        faults(0, times(7, "order 0 left tap;"), 3, 6 * 17);
        faults(0, times(6, "order 0 left tap;") + "order 0 left tap tap tap tap tap;", 3, 6 * 17);
        faults(0, times(6, "order 1 left tap;") + "order 0 left tap;order 1 left tap;", 3, 7 * 17);
        faults(0, times(7, "order 0 left tap;") + "turn", 1, 7 * 17 + 4);
        faults(0, times(6, "order 0 left tap;") + "order 2 left tap;", 2, 6 * 17 + 6);
        faults(0, "turn 5;tap", 1, 7);
        faults(0, "turn 5;tired 10;", 2, 5);
        faults(0, "gives 0 tap;", 1, 0);
        faults(0, "made 0;", 1, 0);
        faults(0, "last 8;", 1, 0);
    }

    private static void faultsOfScores() {
        fine(1, "");
        fine(1, "gives 0 tap;gives 1 rest flam roll tap;gives 0 tap;");
        fine(1, times(12, "gives 0 tap;") + times(3, "gives 1 tap tap tap roll;"));
        faults(1, "gives 0;", 1, 7);
        faults(1, "gives 0 tap left;", 1, 12);
        faults(1, "gives 0 tap", 1, 11);
        faults(1, "gives tap;", 1, 6);
        faults(1, "gives;", 1, 5);
        faults(1, "gives 0 halt;", 1, 8);
        faults(1, "gives 0 tap halt;", 1, 12);
        faults(1, "gives 2 tap;", 2, 6);
        faults(1, "gives 12 tap;", 2, 6);
        faults(1, "gives 0" + times(13, " tap") + ";", 3, 56);
        faults(1, times(3, "gives 1 tap tap tap tap;") + "gives 0 tap;gives 1 roll;", 3, 92);
        faults(1, "turn 1;", 1, 0);
        faults(1, "order 0 halt tap;", 1, 0);
    }

    private static void faultsOfHearings() {
        fine(2, "");
        fine(2, "made 0;");
        fine(2, "made 0 halt left right charge retreat halt;made 0 halt left right charge retreat halt;made 1;");
        faults(2, "made 0 tap;", 1, 7);
        faults(2, "made 2;", 2, 5);
        faults(2, "made;", 1, 4);
        faults(2, "made 0 turn;", 1, 7);
        faults(2, "made 0 roll;", 1, 7);
        faults(2, "made 0", 1, 6);
        faults(2, "made 1" + times(7, " left") + ";", 3, 37);
        faults(2, "gives 0 tap;", 1, 0);
    }

    private static void faultsOfVillages() {
        fine(3, "");
        fine(3, "drop 8 1;drop 0 9;swap 1 tap flam;twice 2 rest;last 3;last 0;last 8;last 6;");
        faults(3, "last 9;", 2, 5);
        faults(3, "last 0;", 2, 5);
        faults(3, "last 8;last 1;", 2, 12);
        faults(3, "last 8;last 7;", 2, 12);
        faults(3, "drop 8 0;", 2, 7);
        faults(3, "drop 8 10;", 2, 7);
        faults(3, "drop 9 0;", 2, 5);
        faults(3, "drop 8;", 1, 6);
        faults(3, "drop 8 tap;", 1, 7);
        faults(3, "swap 8 tap;", 1, 10);
        faults(3, "swap 8 tap tap;", 4, 11);
        faults(3, "swap 9 tap tap;", 2, 5);
        faults(3, "swap 8 tap tap;last 9;", 4, 11);
        faults(3, "swap 8 tap tap;last", 1, 19);
        faults(3, "swap 8 tap flam roll;", 1, 16);
        faults(3, "twice 8 tap tap;", 1, 12);
        faults(3, "twice 8;", 1, 7);
        faults(3, "twice 8 halt;", 1, 8);
        faults(3, "swap 8 tap halt;", 1, 11);
        faults(3, "last;", 1, 4);
        faults(3, "swap 8;", 1, 6);
        faults(3, "last 8 1;", 1, 7);
        faults(3, times(9, "last 8;"), 3, 56);
        faults(3, times(8, "last 8;") + "drop 7 0;", 3, 56);
        faults(3, times(7, "last 8;") + "last 9;last 8;", 2, 54);
        faults(3, "turn 1;", 1, 0);
    }

    /** No text is read, but the tape is taken: what is fed next comes behind an empty one. */
    private static void refuses(OneDrum x, String why, int sort, int at) {
        int before = x.count(0);
        CHECK.due(why, Check.text(x, sort, at, "turn 9;"), -2);
        CHECK.due(why + ": fault 0", x.fault(0), 0);
        CHECK.due(why + ": no place", x.fault(1), NONE);
        CHECK.due(why + ": no text came", x.count(0), before);
        CHECK.due(why + ": nothing is left of the tape", x.end(1), NONE);
        CHECK.due(why + ": twenty bytes behind none", x.feed(0, 0, 0, 0, 0), 20);
        CHECK.due(why + ": an empty tape to go on with", x.end(0), 0);
    }

    private static void places() {
        OneDrum x = new OneDrum();
        refuses(x, "no sort -1", -1, NONE);
        refuses(x, "no sort 4", 4, NONE);
        refuses(x, "none at 0", 0, 0);
        refuses(x, "none at -2", 0, -2);
        CHECK.due("a first one", Check.text(x, 0, NONE, "turn 2;"), 0);
        CHECK.due("a second one", Check.text(x, 0, NONE, "turn 3;order 0 left tap;wet tap roll;place 1 3;"), 1);
        CHECK.due("a fault", Check.text(x, 0, 1, "turn 9;"), NONE);
        CHECK.due("fault", x.fault(0), 2);
        CHECK.due("place", x.fault(1), 5);
        CHECK.due("the old one stays", x.war(1, 0), 3);
        CHECK.due("and its orders", x.war(1, 60), 1);
        refuses(x, "a third one", 0, NONE);
        refuses(x, "none at 2", 0, 2);
        CHECK.due("in the place of one", Check.text(x, 0, 1, "tired 4;"), 1);
        CHECK.due("count", x.count(0), 2);
        CHECK.due("a new turn", x.war(1, 0), 1);
        CHECK.due("tired", x.war(1, 1), 4);
        CHECK.due("wet", x.war(1, 11), 1);
        CHECK.due("place", x.war(1, 51), 10);
        CHECK.due("no orders", x.war(1, 60), 0);
        CHECK.due("the other one", x.war(0, 0), 2);
        for (int sort = 1; sort < 4; sort++) {
            CHECK.due("first", x.text(sort, NONE), 0);
            CHECK.due("second", x.text(sort, NONE), 1);
            CHECK.due("third", x.text(sort, NONE), -2);
            CHECK.due("count", x.count(sort), 2);
        }
    }

    private static void wars() {
        OneDrum x = new OneDrum();
        Check.text(x, 0, NONE, "");
        int[][] first = {{0, 1}, {1, 0}, {2, 0}, {10, 0}, {11, 1}, {12, 2}, {13, 3}, {20, 0}, {21, 0},
            {30, 1}, {31, 1}, {40, 0}, {41, 0}, {50, 0}, {51, 10}, {60, 0}, {61, 0}};
        for (int[] pair : first) {
            CHECK.due("war(0, " + pair[0] + ")", x.war(0, pair[0]), pair[1]);
        }
        Check.text(x, 0, NONE, "turn 4;tired 9;echo 8;wet rest tap;wet tap flam;wet flam roll;wet roll rest;"
            + "from 0 3;from 1 2;step 0 4;step 1 3;lag 0 1;lag 1 2;place 0 20;place 1 19;"
            + "order 0 left tap;order 1 left tap;order 1 left tap;turn 3;lag 1 3;wet tap roll;");
        int[][] second = {{0, 3}, {1, 9}, {2, 8}, {10, 1}, {11, 3}, {12, 3}, {13, 0}, {20, 3}, {21, 2},
            {30, 4}, {31, 3}, {40, 1}, {41, 3}, {50, 20}, {51, 19}, {60, 1}, {61, 2}};
        for (int[] pair : second) {
            CHECK.due("war(1, " + pair[0] + ")", x.war(1, pair[0]), pair[1]);
        }
        int[] others = {-1, 3, 9, 14, 19, 22, 29, 32, 42, 52, 62, 70, 71, 120, -20, -10,
            Integer.MAX_VALUE, Integer.MIN_VALUE};
        for (int what : others) {
            CHECK.due("war(1, " + what + ")", x.war(1, what), NONE);
        }
        CHECK.due("no war -1", x.war(-1, 0), NONE);
        CHECK.due("no war 2", x.war(2, 0), NONE);
    }

    private static void orders() {
        OneDrum x = new OneDrum();
        Check.text(x, 0, NONE, "order 1 charge roll;order 0 halt tap flam;order 1 retreat rest tap flam roll;");
        CHECK.due("move", x.order(0, 1, 0, 0), 3);
        CHECK.due("length", x.order(0, 1, 0, 1), 1);
        CHECK.due("beat", x.order(0, 1, 0, 10), 3);
        CHECK.due("no beat", x.order(0, 1, 0, 11), NONE);
        CHECK.due("move", x.order(0, 1, 1, 0), 4);
        CHECK.due("length", x.order(0, 1, 1, 1), 4);
        for (int i = 0; i < 4; i++) {
            CHECK.due("beat", x.order(0, 1, 1, 10 + i), i);
        }
        CHECK.due("no beat", x.order(0, 1, 1, 14), NONE);
        CHECK.due("no beat", x.order(0, 1, 1, 9), NONE);
        CHECK.due("another what", x.order(0, 1, 1, 2), NONE);
        CHECK.due("another what", x.order(0, 1, 1, -1), NONE);
        CHECK.due("another what", x.order(0, 1, 1, Integer.MIN_VALUE), NONE);
        CHECK.due("move", x.order(0, 0, 0, 0), 0);
        CHECK.due("beat", x.order(0, 0, 0, 11), 2);
        CHECK.due("no order", x.order(0, 0, 1, 0), NONE);
        CHECK.due("no order", x.order(0, 0, -1, 0), NONE);
        CHECK.due("no army", x.order(0, 2, 0, 0), NONE);
        CHECK.due("no army", x.order(0, -1, 0, 0), NONE);
        CHECK.due("no war", x.order(1, 0, 0, 0), NONE);
    }

    private static void scores() {
        OneDrum x = new OneDrum();
        Check.text(x, 1, NONE, "gives 1 tap roll;gives 0 flam;gives 1 rest;");
        CHECK.due("how many", x.given(0, 0, NONE), 1);
        CHECK.due("how many", x.given(0, 1, NONE), 3);
        CHECK.due("beat", x.given(0, 0, 0), 2);
        CHECK.due("beat", x.given(0, 1, 0), 1);
        CHECK.due("beat", x.given(0, 1, 1), 3);
        CHECK.due("beat", x.given(0, 1, 2), 0);
        CHECK.due("no beat", x.given(0, 1, 3), NONE);
        CHECK.due("no beat", x.given(0, 1, -2), NONE);
        CHECK.due("no giver", x.given(0, 2, NONE), NONE);
        CHECK.due("no giver", x.given(0, -1, NONE), NONE);
        CHECK.due("no score", x.given(1, 0, NONE), NONE);
        CHECK.due("no score", x.given(-1, 0, NONE), NONE);
        Check.text(x, 1, 0, "gives 0 tap;");
        CHECK.due("anew", x.given(0, 1, NONE), 0);
    }

    private static void hearings() {
        OneDrum x = new OneDrum();
        Check.text(x, 2, NONE, "made 0 left right;made 0 retreat;");
        CHECK.due("how many", x.told(0, 0, NONE), 1);
        CHECK.due("move", x.told(0, 0, 0), 4);
        CHECK.due("no move", x.told(0, 0, 1), -2);
        CHECK.due("no move", x.told(0, 0, -2), -2);
        CHECK.due("nothing told", x.told(0, 1, NONE), NONE);
        CHECK.due("nothing told", x.told(0, 1, 0), -2);
        CHECK.due("no army", x.told(0, 2, NONE), -2);
        CHECK.due("no army", x.told(0, -1, NONE), -2);
        CHECK.due("no hearing", x.told(1, 0, NONE), -2);
        Check.text(x, 2, 0, "made 1;");
        CHECK.due("nothing told now", x.told(0, 0, NONE), NONE);
        CHECK.due("told that none", x.told(0, 1, NONE), 0);
        CHECK.due("no move", x.told(0, 1, 0), -2);
    }

    private static void villages() {
        OneDrum x = new OneDrum();
        Check.text(x, 3, NONE, "drop 8 3;swap 0 roll tap;twice 1 rest;last 8;last 2;");
        CHECK.due("how many", x.village(0, NONE, 0), 5);
        int[][] due = {{8, 0, 3, NONE, 1}, {0, 1, 3, 1, 2}, {1, 2, 0, NONE, 3}, {8, 3, NONE, NONE, 1},
            {2, 3, NONE, NONE, 4}};
        for (int k = 0; k < 5; k++) {
            for (int what = 0; what < 5; what++) {
                CHECK.due("village(0, " + k + ", " + what + ")", x.village(0, k, what), due[k][what]);
            }
        }
        CHECK.due("no village", x.village(0, 5, 0), -2);
        CHECK.due("no village", x.village(0, -2, 0), -2);
        CHECK.due("another what", x.village(0, 0, 5), -2);
        CHECK.due("another what", x.village(0, 0, -1), -2);
        CHECK.due("another what", x.village(0, NONE, 1), -2);
        CHECK.due("none such", x.village(1, NONE, 0), -2);
        CHECK.due("none such", x.village(-1, NONE, 0), -2);
    }

    private static void images() {
        OneDrum x = new OneDrum();
        Check.text(x, 0, NONE, "turn 2;order 0 left tap;place 0 7;");
        Check.text(x, 1, NONE, "gives 1 roll;");
        Check.text(x, 2, NONE, "made 0 left;");
        Check.text(x, 3, NONE, "last 8;");
        Check.text(x, 1, NONE, "gives 2 tap;");
        Check.feed(x, "turn 4;".getBytes());
        CHECK.due("image(1)", x.image(1), true);
        CHECK.due("image(3)", x.image(3), false);
        CHECK.due("image(-1)", x.image(-1), false);
        CHECK.due("again(0)", x.again(0), false);
        CHECK.due("text", x.text(0, NONE), 1);
        Check.text(x, 0, 0, "");
        Check.text(x, 1, 0, "gives 0 tap;");
        Check.text(x, 2, 0, "made 1;");
        Check.text(x, 3, 0, "");
        CHECK.due("image(2)", x.image(2), true);
        CHECK.due("again(1)", x.again(1), true);
        CHECK.due("wars", x.count(0), 1);
        CHECK.due("turn", x.war(0, 0), 2);
        CHECK.due("place", x.war(0, 50), 7);
        CHECK.due("order", x.order(0, 0, 0, 10), 1);
        CHECK.due("given", x.given(0, 1, 0), 3);
        CHECK.due("told", x.told(0, 0, 0), 1);
        CHECK.due("villages", x.village(0, NONE, 0), 1);
        CHECK.due("fault", x.fault(0), 2);
        CHECK.due("its place", x.fault(1), 6);
        CHECK.due("tape", x.end(7), 7);
        CHECK.due("its bytes", x.text(0, 0), 0);
        CHECK.due("turn", x.war(0, 0), 4);
        CHECK.due("again(1), still as it was", x.again(1), true);
        CHECK.due("turn", x.war(0, 0), 2);
        CHECK.due("again(2), which stayed", x.again(2), true);
        CHECK.due("wars", x.count(0), 2);
        CHECK.due("turn", x.war(1, 0), 4);
        CHECK.due("turn", x.war(0, 0), 1);
        CHECK.due("told", x.told(0, 0, NONE), NONE);
        CHECK.due("fault", x.fault(0), 0);
        CHECK.due("tape", x.end(1), NONE);
        CHECK.due("image(0)", x.image(0), true);
        CHECK.due("again(0)", x.again(0), true);
        CHECK.due("turn", x.war(1, 0), 4);
        CHECK.due("image(1) anew", x.image(1), true);
        Check.text(x, 0, 1, "turn 3;");
        CHECK.due("again(1)", x.again(1), true);
        CHECK.due("turn", x.war(1, 0), 4);
    }
}
