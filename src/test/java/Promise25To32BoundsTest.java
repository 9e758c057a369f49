/** Promises 25 to 32: their bounds and refused calls, a test for each sentence. */
public final class Promise25To32BoundsTest {
    private static final int NONE = OneDrum.NONE;
    private static final int LEFT = 1;
    private static final Check CHECK = new Check();
    private static final String[] TEXTS = {"turn 2;order 0 left tap;", "gives 0 tap;", "made 0 left;", "last 8;"};

    public static void main(String[] args) {
        Sentences.run(Promise25To32BoundsTest.class, CHECK);
    }

    // Promise 25

    /** Nothing that the wind could change: what is given are rests. */
    private static OneDrum calm() {
        return Check.with("place 1 0;tired 1;order 0 halt rest;order 1 retreat rest;", "gives 0 rest rest;");
    }

    @Says(in = "Promise 25", words = "DRAWN, n evenings, 0 .. 40")
    static void promise25_from0To40Evenings() {
        OneDrum x = calm();
        for (int n = 0; n <= 40; n++) {
            CHECK.due("they MEET on " + n, x.drawn(0, 0, 9, n, 1), n);
            CHECK.due("HALT on " + n, x.drawn(0, 0, 9, n, 10), 2 * n);
        }
    }

    @Says(in = "Promise 25", words = {"what 0: on how many both MADE the same, 1: on how many they MEET, ",
        "10 + m, 20 + m: how often MOVE m was MADE by ARMY 0, 1"})
    static void promise25_whatIsCounted() {
        OneDrum x = calm();
        int[][] due = {{0, 0}, {1, 40}, {10, 80}, {11, 0}, {12, 0}, {13, 0}, {14, 0}, {20, 0}, {21, 0}, {22, 0}, {23, 0}, {24, 80}};
        for (int[] pair : due) {
            CHECK.due("what " + pair[0], x.drawn(0, 0, 9, 40, pair[0]), pair[1]);
        }
        OneDrum same = Check.with("", "");
        CHECK.due("none by both", same.drawn(0, 0, 9, 40, 0), 40);
        CHECK.due("they don't MEET", same.drawn(0, 0, 9, 40, 1), 0);
        String[] moves = {"halt", "left", "right", "charge", "retreat"};
        for (int m = 0; m < 5; m++) {
            OneDrum each = Check.with("tired 1;order 0 " + moves[m] + " rest;order 1 " + moves[4 - m] + " rest;", "gives 1 tap;");
            for (int of = 0; of < 5; of++) {
                CHECK.due("MOVE " + of + " by 0", each.drawn(0, 0, 9, 3, 10 + of), of == m ? 3 : 0);
                CHECK.due("MOVE " + of + " by 1", each.drawn(0, 0, 9, 3, 20 + of), of == 4 - m ? 3 : 0);
            }
        }
    }

    @Says(in = "Promise 25", words = "NONE: there is none such (of either)")
    static void promise25_noneSuchAWarOrScore() {
        OneDrum x = calm();
        int[] whats = {0, 1, 10, 24};
        for (int none : Check.outside(0, 0)) {
            for (int what : whats) {
                CHECK.due("war " + none, x.drawn(none, 0, 9, 1, what), NONE);
                CHECK.due("score " + none, x.drawn(0, none, 9, 1, what), NONE);
            }
        }
    }

    @Says(in = "Promise 25", words = "another n")
    static void promise25_noneForAnotherN() {
        OneDrum x = calm();
        for (int n : Check.outside(0, 40)) {
            CHECK.due("n " + n, x.drawn(0, 0, 9, n, 0), NONE);
            CHECK.due("n " + n, x.drawn(0, 0, 9, n, 1), NONE);
            CHECK.due("n " + n, x.drawn(0, 0, 9, n, 10), NONE);
        }
    }

    @Says(in = "Promise 25", words = "or for another what")
    static void promise25_noneForAnotherWhat() {
        OneDrum x = calm();
        for (int what : Check.but(0, 1, 10, 11, 12, 13, 14, 20, 21, 22, 23, 24)) {
            CHECK.due("what " + what, x.drawn(0, 0, 9, 1, what), NONE);
            CHECK.due("what " + what + ", no evening", x.drawn(0, 0, 9, 0, what), NONE);
        }
    }

    // Promise 26

    @Says(in = "Promise 26", words = "COMMON, what 0: how many BEATS, 1: from which on; 2: PERIOD")
    static void promise26_commonAndPeriod() {
        OneDrum x = Check.with("step 0 2;from 1 1;step 1 2;", "gives 0 roll tap flam;gives 1 tap flam flam;");
        int[] due = {2, 1, 6};
        OneDrum none = Check.with("", "");
        OneDrum all = Check.with("", Check.gives(Check.times(12, "tap"), Check.times(12, "tap")));
        int[] ofAll = {24, 0, 1};
        for (int what = 0; what < 3; what++) {
            CHECK.due("what " + what, x.common(0, 0, what), due[what]);
            CHECK.due("of none, what " + what, none.common(0, 0, what), 0);
            CHECK.due("of all, what " + what, all.common(0, 0, what), ofAll[what]);
        }
    }

    @Says(in = "Promise 26", words = "NONE: there is none such (of either)")
    static void promise26_noneSuchAWarOrScore() {
        OneDrum x = Check.with("", "gives 0 tap;");
        for (int none : Check.outside(0, 0)) {
            for (int what = 0; what < 3; what++) {
                CHECK.due("war " + none, x.common(none, 0, what), NONE);
                CHECK.due("score " + none, x.common(0, none, what), NONE);
            }
        }
    }

    @Says(in = "Promise 26", words = "or for another what")
    static void promise26_noneForAnotherWhat() {
        OneDrum x = Check.with("", "gives 0 tap;");
        for (int what : Check.but(0, 1, 2)) {
            CHECK.due("common(0, 0, " + what + ")", x.common(0, 0, what), NONE);
        }
    }

    // Promise 27

    @Says(in = "Promise 27", words = "READINGS: in how many ways, or (few) the fewest ORDERS (NONE: in none)")
    static void promise27_waysOrTheFewestOrNone() {
        OneDrum none = Check.with("order 0 left flam;", "gives 0 tap;");
        CHECK.due("ways", none.readings(0, 0, 0, false), 0);
        CHECK.due("fewest", none.readings(0, 0, 0, true), NONE);
        OneDrum many = Check.with("order 1 left tap;".repeat(6), Check.gives(Check.times(12, "tap"), Check.times(12, "tap")));
        long ways = 1;
        for (int i = 0; i < 24; i++) {
            ways *= 6;
        }
        CHECK.due("ways", many.readings(0, 0, 1, false), ways);
        CHECK.due("fewest", many.readings(0, 0, 1, true), 24);
        OneDrum nothing = Check.with("", "");
        CHECK.due("ways of nothing HEARD", nothing.readings(0, 0, 0, false), 1);
        CHECK.due("fewest of nothing HEARD", nothing.readings(0, 0, 0, true), 0);
        OneDrum two = Check.with("order 0 left tap;", "gives 0 tap tap;");
        Check.text(two, 0, NONE, "order 0 left tap tap;order 0 left tap;");
        Check.text(two, 1, NONE, "gives 0 tap tap tap;");
        // by WAR and SCORE
        int[][] due = {{1, 1}, {2, 3}};
        int[][] fewest = {{2, 3}, {1, 2}};
        for (int war = 0; war < 2; war++) {
            for (int score = 0; score < 2; score++) {
                CHECK.due("ways of " + score + " in " + war, two.readings(war, score, 0, false), due[war][score]);
                CHECK.due("fewest of " + score + " in " + war, two.readings(war, score, 0, true), fewest[war][score]);
            }
        }
    }

    @Says(in = "Promise 27", words = "-2: there is none such (of any)")
    static void promise27_noneSuchAWarScoreOrArmy() {
        OneDrum x = Check.with("order 0 left tap;", "gives 0 tap;");
        for (int few = 0; few < 2; few++) {
            for (int none : Check.outside(0, 0)) {
                CHECK.due("war " + none, x.readings(none, 0, 0, few == 1), -2);
                CHECK.due("score " + none, x.readings(0, none, 0, few == 1), -2);
            }
            for (int army : Check.outside(0, 1)) {
                CHECK.due("army " + army, x.readings(0, 0, army, few == 1), -2);
            }
        }
    }

    // Promise 28

    @Says(in = "Promise 28", words = "UNIQUE, 1 or 0, or (twofold) TWOFOLD (NONE: it is UNIQUE)")
    static void promise28_uniqueOrTwofoldOrNone() {
        OneDrum x = Check.with("order 0 left tap;order 1 left tap;order 1 left tap;", "");
        CHECK.due("UNIQUE", x.unique(0, 0, false), 1);
        CHECK.due("TWOFOLD", x.unique(0, 0, true), NONE);
        CHECK.due("not UNIQUE", x.unique(0, 1, false), 0);
        CHECK.due("TWOFOLD", x.unique(0, 1, true), 1);
        OneDrum none = Check.with("", "");
        CHECK.due("without ORDERS", none.unique(0, 0, false), 1);
        CHECK.due("without ORDERS", none.unique(0, 0, true), NONE);
        OneDrum last = Check.with("order 0 left rest;order 0 left tap;order 0 left flam;order 0 left roll tap;order 0 left roll rest;"
            + "order 0 left roll rest;", "");
        CHECK.due("the last two", last.unique(0, 0, false), 0);
        CHECK.due("the last two", last.unique(0, 0, true), 2);
    }

    @Says(in = "Promise 28", words = "-2: there is none such (of either)")
    static void promise28_noneSuchAWarOrArmy() {
        OneDrum x = Check.with("order 0 left tap;", "");
        for (int twofold = 0; twofold < 2; twofold++) {
            for (int war : Check.outside(0, 0)) {
                CHECK.due("war " + war, x.unique(war, 0, twofold == 1), -2);
            }
            for (int army : Check.outside(0, 1)) {
                CHECK.due("army " + army, x.unique(0, army, twofold == 1), -2);
            }
        }
    }

    // Promise 29

    @Says(in = "Promise 29", words = "FIX: how many places, or (bits) which")
    static void promise29_howManyPlacesOrWhich() {
        String[] scores = {"gives 0 flam tap tap;", "gives 0 flam tap roll tap;", "gives 0 flam roll rest flam;"};
        int[] bits = {0, 1, 3};
        for (int many = 0; many < 3; many++) {
            OneDrum x = Check.with("order 0 left tap tap;", scores[many]);
            CHECK.due("how many", x.fix(0, 0, 0, LEFT, false), many);
            CHECK.due("which", x.fix(0, 0, 0, LEFT, true), bits[many]);
        }
    }

    @Says(in = "Promise 29", words = "NONE: not by two")
    static void promise29_noneIfNotByTwo() {
        OneDrum x = Check.with("order 0 left tap tap tap;", "gives 0 flam roll rest flam;");
        for (int bits = 0; bits < 2; bits++) {
            CHECK.due("three would do", x.fix(0, 0, 0, LEFT, bits == 1), NONE);
            CHECK.due("no such ORDER", x.fix(0, 0, 0, 0, bits == 1), NONE);
            CHECK.due("no such ORDER", x.fix(0, 0, 1, 4, bits == 1), NONE);
            CHECK.due("no ROW", Check.with("order 0 left tap;", "").fix(0, 0, 0, LEFT, bits == 1), NONE);
        }
    }

    @Says(in = "Promise 29", words = "or there is none such (of any)")
    static void promise29_noneSuchAWarScoreArmyOrMove() {
        OneDrum x = Check.with("order 0 left tap;order 1 left tap;", "gives 0 tap;");
        for (int bits = 0; bits < 2; bits++) {
            for (int none : Check.outside(0, 0)) {
                CHECK.due("war " + none, x.fix(none, 0, 0, LEFT, bits == 1), NONE);
                CHECK.due("score " + none, x.fix(0, none, 0, LEFT, bits == 1), NONE);
            }
            for (int army : Check.outside(0, 1)) {
                CHECK.due("army " + army, x.fix(0, 0, army, LEFT, bits == 1), NONE);
            }
            for (int move : Check.outside(0, 4)) {
                CHECK.due("move " + move, x.fix(0, 0, 0, move, bits == 1), NONE);
            }
        }
    }

    // Promise 30

    @Says(in = "Promise 30", words = "How many there are of a sort")
    static void promise30_howManyFrom0To2() {
        OneDrum x = new OneDrum();
        for (int sort = 0; sort < 4; sort++) {
            for (int many = 0; many <= 2; many++) {
                for (int of = 0; of < 4; of++) {
                    CHECK.due("count(" + of + ")", x.count(of), of < sort ? 2 : of == sort ? many : 0);
                }
                x.text(sort, NONE);
            }
        }
    }

    @Says(in = "Promise 30", words = "-2 for another one")
    static void promise30_minus2ForAnotherSort() {
        OneDrum x = new OneDrum();
        for (int sort : Check.but(0, 1, 2, 3)) {
            CHECK.due("count(" + sort + ")", x.count(sort), -2);
        }
    }

    // Promise 31

    private static void tellAll(OneDrum x, int at) {
        for (int sort = 0; sort < 4; sort++) {
            Check.text(x, sort, at, TEXTS[sort]);
        }
    }

    private static void isAllTold(OneDrum x, String when) {
        CHECK.due(when + ": turn", x.war(0, 0), 2);
        CHECK.due(when + ": order", x.order(0, 0, 0, 10), 1);
        CHECK.due(when + ": given", x.given(0, 0, 0), 1);
        CHECK.due(when + ": told", x.told(0, 0, 0), 1);
        CHECK.due(when + ": village", x.village(0, 0, 1), 3);
        for (int sort = 0; sort < 4; sort++) {
            CHECK.due(when + ": count(" + sort + ")", x.count(sort), 1);
        }
    }

    @Says(in = "Promise 31", words = "Image k (0 .. 2) is all that is told (the tape, the FAULT, too), as it is now: true")
    static void promise31_anImageIsAllThatIsToldNow() {
        for (int k = 0; k < 3; k++) {
            OneDrum x = new OneDrum();
            tellAll(x, NONE);
            Check.text(x, 0, NONE, "turn 9;");
            Check.feed(x, "turn 4;".getBytes());
            CHECK.due("image(" + k + ")", x.image(k), true);
            for (int sort = 0; sort < 4; sort++) {
                x.text(sort, 0);
                x.text(sort, NONE);
            }
            CHECK.due("again(" + k + ")", x.again(k), true);
            isAllTold(x, "again");
            CHECK.due("the FAULT", x.fault(0), 2);
            CHECK.due("its place", x.fault(1), 5);
            CHECK.due("the tape", x.end(8), NONE);
            CHECK.due("the tape", x.end(7), 7);
            CHECK.due("its text", x.text(0, NONE), 1);
            CHECK.due("turn", x.war(1, 0), 4);
        }
        OneDrum full = new OneDrum();
        Check.feed(full, (" ".repeat(593) + "turn 3;").getBytes());
        full.image(2);
        full.end(0);
        Check.feed(full, new byte[600]);
        full.again(2);
        CHECK.due("a full tape", full.end(600), 600);
        CHECK.due("its text", full.text(0, NONE), 0);
        CHECK.due("its last bytes", full.war(0, 0), 3);
    }

    @Says(in = "Promise 31", words = {"Image k (0 .. 2)", "true; false for another k"})
    static void promise31_falseForAnotherK() {
        OneDrum x = new OneDrum();
        x.image(0);
        x.image(1);
        x.image(2);
        tellAll(x, NONE);
        for (int k : Check.outside(0, 2)) {
            CHECK.due("image(" + k + ")", x.image(k), false);
            CHECK.due("again(" + k + ")", x.again(k), false);
        }
        isAllTold(x, "behind what was refused");
        for (int k = 0; k < 3; k++) {
            x.again(k);
            CHECK.due("image " + k + " is as it was", x.count(0), 0);
        }
    }

    // Promise 32

    @Says(in = "Promise 32", words = "All that is as image k has it (other images stay): true")
    static void promise32_allIsAsTheImageHasItAndOtherImagesStay() {
        OneDrum x = new OneDrum();
        x.image(0);
        tellAll(x, NONE);
        x.image(1);
        Check.text(x, 0, NONE, "turn 3;");
        x.image(2);
        for (int round = 0; round < 2; round++) {
            CHECK.due("again(0)", x.again(0), true);
            CHECK.due("none", x.count(0), 0);
            CHECK.due("no war", x.war(0, 0), NONE);
            CHECK.due("again(2)", x.again(2), true);
            CHECK.due("two", x.count(0), 2);
            CHECK.due("turn", x.war(1, 0), 3);
            CHECK.due("again(1)", x.again(1), true);
            isAllTold(x, "again(1)");
            CHECK.due("no war 1", x.war(1, 0), NONE);
            Check.text(x, 0, 0, "turn 4;");
            Check.text(x, 1, 0, "");
            Check.text(x, 2, 0, "made 0;");
            Check.text(x, 3, 0, "");
        }
        CHECK.due("again(1), whatever came behind it", x.again(1), true);
        isAllTold(x, "again(1)");
        CHECK.due("as many as may be are two again", Check.text(x, 0, NONE, "turn 2;"), 1);
        CHECK.due("image(1) anew", x.image(1), true);
        x.again(0);
        x.again(1);
        CHECK.due("the image of the latest image(1)", x.count(0), 2);
    }

    @Says(in = "Promise 32", words = "false if there is none such")
    static void promise32_falseIfThereIsNoneSuch() {
        for (int taken = 0; taken < 3; taken++) {
            OneDrum x = new OneDrum();
            x.image(taken);
            tellAll(x, NONE);
            Check.text(x, 0, NONE, "turn 9;");
            Check.feed(x, "turn 4;".getBytes());
            for (int k : Check.but(taken)) {
                CHECK.due("again(" + k + ")", x.again(k), false);
            }
            isAllTold(x, "behind what was refused");
            CHECK.due("the FAULT stays", x.fault(0), 2);
            CHECK.due("its place stays", x.fault(1), 5);
            CHECK.due("the tape stays", x.end(7), 7);
            CHECK.due("again(" + taken + ")", x.again(taken), true);
            CHECK.due("nothing is told", x.count(0), 0);
        }
    }
}
