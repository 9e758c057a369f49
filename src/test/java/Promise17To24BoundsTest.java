/** Promises 17 to 24: their bounds and refused calls, a test for each sentence. */
public final class Promise17To24BoundsTest {
    private static final int NONE = OneDrum.NONE;
    private static final int LEFT = 1;
    private static final int RIGHT = 2;
    private static final Check CHECK = new Check();

    public static void main(String[] args) {
        Sentences.run(Promise17To24BoundsTest.class, CHECK);
    }

    // Promise 17

    @Says(in = "Promise 17", words = "MEANT: in how many ways, or (first) the first, as a number (NONE: none)")
    static void promise17_waysOrTheFirstOrNone() {
        OneDrum x = Check.withHearing("order 0 left roll;", "gives 1 tap;", "made 0 left left left left left;");
        for (int n = 0; n <= 5; n++) {
            CHECK.due("ways by " + n, x.meant(0, 0, 0, n, false), n == 5 ? 1 : 0);
            CHECK.due("first by " + n, x.meant(0, 0, 0, n, true), n == 5 ? 1023 : NONE);
        }
        OneDrum nothing = Check.withHearing("", "", "");
        for (int n = 0; n <= 5; n++) {
            CHECK.due("all ways by " + n, nothing.meant(0, 0, 0, n, false), (int) Math.pow(4, n));
            CHECK.due("the first by " + n, nothing.meant(0, 0, 0, n, true), 0);
        }
    }

    @Says(in = "Promise 17", words = "-2: there is none such (of any)")
    static void promise17_noneSuchAWarScoreOrHearing() {
        OneDrum x = Check.withHearing("", "", "");
        for (int none : Check.outside(0, 0)) {
            for (int first = 0; first < 2; first++) {
                CHECK.due("war " + none, x.meant(none, 0, 0, 1, first == 1), -2);
                CHECK.due("score " + none, x.meant(0, none, 0, 1, first == 1), -2);
                CHECK.due("hearing " + none, x.meant(0, 0, none, 1, first == 1), -2);
            }
        }
    }

    @Says(in = "Promise 17", words = "or another n")
    static void promise17_minus2ForAnotherN() {
        OneDrum x = Check.withHearing("", "", "");
        for (int n : Check.outside(0, 5)) {
            CHECK.due("n " + n, x.meant(0, 0, 0, n, false), -2);
            CHECK.due("n " + n, x.meant(0, 0, 0, n, true), -2);
        }
    }

    // Promise 18

    private static final String TRUCE = "order 0 left tap;order 0 right tap tap;order 1 right roll roll roll roll;order 1 left rest;";

    @Says(in = "Promise 18", words = "TRUCE: how many BEATS, or (row) the row, as a number")
    static void promise18_howManyBeatsOrTheRow() {
        OneDrum x = Check.with(TRUCE, "");
        CHECK.due("five", x.truce(0, LEFT, RIGHT, false), 5);
        CHECK.due("their row", x.truce(0, LEFT, RIGHT, true), 511);
        CHECK.due("two", x.truce(0, LEFT, LEFT, false), 2);
        CHECK.due("their row", x.truce(0, LEFT, LEFT, true), 1);
        OneDrum rests = Check.with("order 0 left rest;order 1 left rest;", "");
        CHECK.due("one", rests.truce(0, LEFT, LEFT, false), 1);
        CHECK.due("its row, which is 0", rests.truce(0, LEFT, LEFT, true), 0);
    }

    @Says(in = "Promise 18", words = "NONE: not by 5")
    static void promise18_noneIfNotBy5() {
        OneDrum x = Check.with(TRUCE, "");
        for (int row = 0; row < 2; row++) {
            CHECK.due("six would do", x.truce(0, RIGHT, RIGHT, row == 1), NONE);
            CHECK.due("no such ORDER", x.truce(0, 0, RIGHT, row == 1), NONE);
            CHECK.due("no such ORDER", x.truce(0, LEFT, 4, row == 1), NONE);
        }
    }

    @Says(in = "Promise 18", words = "or there is none such (of any)")
    static void promise18_noneSuchAWarOrMove() {
        OneDrum x = Check.with(TRUCE, "");
        for (int row = 0; row < 2; row++) {
            for (int war : Check.outside(0, 0)) {
                CHECK.due("war " + war, x.truce(war, LEFT, RIGHT, row == 1), NONE);
            }
            for (int move : Check.outside(0, 4)) {
                CHECK.due("one " + move, x.truce(0, move, RIGHT, row == 1), NONE);
                CHECK.due("other " + move, x.truce(0, LEFT, move, row == 1), NONE);
            }
        }
    }

    // Promise 19

    @Says(in = "Promise 19", words = "FAR of two ORDERS of an ARMY")
    static void promise19_farOfTheFirstAndTheLastOrders() {
        OneDrum x = Check.with("order 0 left tap;".repeat(5) + "order 0 left roll roll roll roll;"
            + "order 1 left flam;order 1 left flam tap;", "");
        CHECK.due("0 and 5", x.far(0, 0, 0, 5), 4);
        CHECK.due("5 and 0", x.far(0, 0, 5, 0), 4);
        CHECK.due("5 and 5", x.far(0, 0, 5, 5), 0);
        CHECK.due("0 and 4", x.far(0, 0, 0, 4), 0);
        CHECK.due("of 1", x.far(0, 1, 0, 1), 1);
    }

    @Says(in = "Promise 19", words = "NONE: there is none such (of any)")
    static void promise19_noneSuchAWarArmyOrOrder() {
        OneDrum x = Check.with("order 0 left tap;".repeat(6) + "order 1 left tap;", "");
        for (int war : Check.outside(0, 0)) {
            CHECK.due("war " + war, x.far(war, 0, 0, 0), NONE);
        }
        for (int army : Check.outside(0, 1)) {
            CHECK.due("army " + army, x.far(0, army, 0, 0), NONE);
        }
        for (int k : Check.outside(0, 5)) {
            CHECK.due("a " + k, x.far(0, 0, k, 0), NONE);
            CHECK.due("b " + k, x.far(0, 0, 0, k), NONE);
            CHECK.due("a and b " + k, x.far(0, 0, k, k), NONE);
        }
        for (int k : Check.outside(0, 0)) {
            CHECK.due("a " + k + " of 1", x.far(0, 1, k, 0), NONE);
            CHECK.due("b " + k + " of 1", x.far(0, 1, 0, k), NONE);
        }
    }

    // Promise 20

    @Says(in = "Promise 20", words = "Of an ARMY, what 0: SAFE (NONE: no two such), 1: HEADS")
    static void promise20_safeOrNoneAndHeads() {
        String[] wars = {"", "order 0 left tap;", "order 0 left tap;order 0 left flam;", "order 0 left tap;order 0 right tap;"};
        int[] safe = {NONE, NONE, NONE, 0};
        int[] heads = {0, 0, 0, 1};
        for (int i = 0; i < wars.length; i++) {
            OneDrum x = Check.with(wars[i], "");
            CHECK.due(wars[i] + " SAFE", x.codes(0, 0, 0), safe[i]);
            CHECK.due(wars[i] + " HEADS", x.codes(0, 0, 1), heads[i]);
            CHECK.due("SAFE of 1", x.codes(0, 1, 0), NONE);
            CHECK.due("HEADS of 1", x.codes(0, 1, 1), 0);
        }
        // the first and the last are the only two
        OneDrum ends = Check.with("order 1 left tap;".repeat(5) + "order 1 right tap roll;", "");
        CHECK.due("SAFE", ends.codes(0, 1, 0), 1);
        CHECK.due("HEADS", ends.codes(0, 1, 1), 15);
    }

    @Says(in = "Promise 20", words = "-2: there is none such (of either)")
    static void promise20_noneSuchAWarOrArmy() {
        OneDrum x = Check.with("order 0 left tap;order 0 right tap;", "");
        for (int what = 0; what < 2; what++) {
            for (int war : Check.outside(0, 0)) {
                CHECK.due("war " + war, x.codes(war, 0, what), -2);
            }
            for (int army : Check.outside(0, 1)) {
                CHECK.due("army " + army, x.codes(0, army, what), -2);
            }
        }
    }

    @Says(in = "Promise 20", words = "or for another what")
    static void promise20_minus2ForAnotherWhat() {
        OneDrum x = Check.with("order 0 left tap;order 0 right tap;", "");
        for (int what : Check.but(0, 1)) {
            CHECK.due("codes(0, 0, " + what + ")", x.codes(0, 0, what), -2);
        }
    }

    // Promise 21

    @Says(in = "Promise 21", words = "SHARED: how many (k NONE), or the k-th")
    static void promise21_howManyOrTheKth() {
        OneDrum x = Check.with("order 0 left tap;order 0 left flam;order 0 left tap;order 1 left flam;order 1 left tap;", "");
        int[] due = {1, 6, 13};
        CHECK.due("how many", x.shared(0, NONE), 3);
        for (int k = 0; k < 3; k++) {
            CHECK.due("the " + k + "-th", x.shared(0, k), due[k]);
        }
        CHECK.due("none", Check.with("", "").shared(0, NONE), 0);
        OneDrum zero = Check.with("order 0 left tap;order 1 left tap;", "");
        CHECK.due("one", zero.shared(0, NONE), 1);
        CHECK.due("number 0", zero.shared(0, 0), 0);
    }

    @Says(in = "Promise 21", words = "NONE: there is none such (of either)")
    static void promise21_noneSuchAWarOrCouple() {
        OneDrum x = Check.with("order 0 left tap;".repeat(6) + "order 1 left tap;".repeat(6), "");
        for (int war : Check.outside(0, 0)) {
            CHECK.due("war " + war, x.shared(war, NONE), NONE);
            CHECK.due("war " + war, x.shared(war, 0), NONE);
        }
        for (int k : Check.outside(NONE, 35)) {
            CHECK.due("couple " + k, x.shared(0, k), NONE);
        }
        OneDrum none = Check.with("", "");
        for (int k : Check.outside(NONE, NONE)) {
            CHECK.due("couple " + k + " of none", none.shared(0, k), NONE);
        }
    }

    // Promise 22

    private static final String VILLAGES = "drop 8 9;swap 0 roll rest;twice 1 rest;last 8;last 3;drop 4 1;swap 5 tap flam;twice 6 roll;";

    private static OneDrum villages() {
        return Check.withVillages("", "gives 0 tap flam roll;", VILLAGES);
    }

    @Says(in = "Promise 22", words = "How many VILLAGES (k NONE, what 0)")
    static void promise22_howManyVillagesFrom0To8() {
        CHECK.due("eight", villages().village(0, NONE, 0), 8);
        CHECK.due("one", Check.withVillages("", "", "last 8;").village(0, NONE, 0), 1);
        CHECK.due("none", Check.withVillages("", "", "").village(0, NONE, 0), 0);
    }

    @Says(in = "Promise 22", words = {"of VILLAGE k, what 0: its PARENT (8 the drum), 1: its CHANGE, ",
        "2, 3: the numbers of that (n, BEATS; NONE without), 4: DEPTH"})
    static void promise22_theVillagesAndTheirNumbersOrNoneWithout() {
        int[][] due = {{8, 0, 9, NONE, 1}, {0, 1, 3, 0, 2}, {1, 2, 0, NONE, 3}, {8, 3, NONE, NONE, 1},
            {3, 3, NONE, NONE, 2}, {4, 0, 1, NONE, 3}, {5, 1, 1, 2, 4}, {6, 2, 3, NONE, 5}};
        OneDrum x = villages();
        for (int k = 0; k < 8; k++) {
            for (int what = 0; what < 5; what++) {
                CHECK.due("village(0, " + k + ", " + what + ")", x.village(0, k, what), due[k][what]);
            }
        }
    }

    @Says(in = "Promise 22", words = "-2: there is none such (of either)")
    static void promise22_noneSuchARowOfVillagesOrVillage() {
        OneDrum x = villages();
        for (int none : Check.outside(0, 0)) {
            CHECK.due("villages " + none, x.village(none, NONE, 0), -2);
            for (int what = 0; what < 5; what++) {
                CHECK.due("villages " + none, x.village(none, 0, what), -2);
            }
        }
        for (int k : Check.outside(NONE, 7)) {
            for (int what = 0; what < 5; what++) {
                CHECK.due("village " + k, x.village(0, k, what), -2);
            }
        }
        OneDrum one = Check.withVillages("", "", "last 8;");
        Check.text(one, 3, NONE, "");
        for (int what = 0; what < 5; what++) {
            CHECK.due("village 1 of one", one.village(0, 1, what), -2);
            CHECK.due("village 0 of none", one.village(1, 0, what), -2);
        }
    }

    @Says(in = "Promise 22", words = "or for another what")
    static void promise22_minus2ForAnotherWhat() {
        OneDrum x = villages();
        for (int what : Check.but(0, 1, 2, 3, 4)) {
            CHECK.due("village(0, 0, " + what + ")", x.village(0, 0, what), -2);
        }
        for (int what : Check.but(0)) {
            CHECK.due("village(0, NONE, " + what + ")", x.village(0, NONE, what), -2);
        }
    }

    // Promise 23

    @Says(in = "Promise 23", words = "VERSION of VILLAGE v: how many BEATS (k NONE), or BEAT k")
    static void promise23_howManyBeatsFrom0To60OrBeatK() {
        OneDrum x = Check.withVillages("", Check.gives(Check.times(12, "tap"), Check.times(11, "tap") + " roll"),
            "twice 8 tap;twice 0 tap;drop 8 1;swap 8 tap roll;last 8;last 4;last 5;last 6;");
        int[] due = {47, 60, 0, 24, 23, 22, 21, 20};
        for (int v = 0; v < 8; v++) {
            CHECK.due("length of " + v, x.version(0, 0, 0, v, NONE), due[v]);
        }
        CHECK.due("BEAT 0", x.version(0, 0, 0, 0, 0), 1);
        CHECK.due("BEAT 46", x.version(0, 0, 0, 0, 46), 3);
        CHECK.due("BEAT 59", x.version(0, 0, 0, 1, 59), 1);
        CHECK.due("BEAT 23", x.version(0, 0, 0, 3, 23), 1);
        CHECK.due("BEAT 0", x.version(0, 0, 0, 3, 0), 3);
        CHECK.due("BEAT 19", x.version(0, 0, 0, 7, 19), 1);
    }

    @Says(in = "Promise 23", words = "NONE: there is none such (of any)")
    static void promise23_noneSuchAWarScoreVillagesVillageOrBeat() {
        OneDrum x = villages();
        for (int k = NONE; k <= 0; k++) {
            for (int none : Check.outside(0, 0)) {
                CHECK.due("war " + none, x.version(none, 0, 0, 0, k), NONE);
                CHECK.due("score " + none, x.version(0, none, 0, 0, k), NONE);
                CHECK.due("villages " + none, x.version(0, 0, none, 0, k), NONE);
            }
            for (int v : Check.outside(0, 7)) {
                CHECK.due("village " + v, x.version(0, 0, 0, v, k), NONE);
            }
        }
        for (int k : Check.outside(NONE, 2)) {
            CHECK.due("BEAT " + k + " of three", x.version(0, 0, 0, 0, k), NONE);
            CHECK.due("BEAT " + k + " of none", x.version(0, 0, 0, 5, k), NONE);
        }
        CHECK.due("BEAT 0 of none", x.version(0, 0, 0, 5, 0), NONE);
        OneDrum full = Check.withVillages("", Check.gives(Check.times(12, "tap"), Check.times(12, "tap")), "twice 8 tap;twice 0 tap;");
        CHECK.due("BEAT 60 of 60", full.version(0, 0, 0, 1, 60), NONE);
        CHECK.due("VILLAGE 2 of two", full.version(0, 0, 0, 2, NONE), NONE);
    }

    // Promise 24

    @Says(in = "Promise 24", words = "Of VILLAGE v, FARNESS, or (likes) LIKES (bits)")
    static void promise24_farnessOrLikes() {
        OneDrum x = villages();
        // 1 2 3, 1 2 0, 1 2 0 0, 1 2, 1, none, none, none
        int[] far = {0, 1, 2, 1, 2, 3, 3, 3};
        int[] likes = {1, 2, 4, 8, 16, 224, 224, 224};
        for (int v = 0; v < 8; v++) {
            CHECK.due("FARNESS of " + v, x.tale(0, 0, 0, v, false), far[v]);
            CHECK.due("LIKES of " + v, x.tale(0, 0, 0, v, true), likes[v]);
        }
        OneDrum two = Check.withVillages("", "gives 0 tap flam;", "last 8;");
        Check.text(two, 3, NONE, "last 8;swap 8 tap flam;drop 8 2;drop 8 1;");
        CHECK.due("LIKES in the first row of VILLAGES", two.tale(0, 0, 0, 0, true), 1);
        CHECK.due("LIKES in the second one", two.tale(0, 0, 1, 0, true), 5);
        CHECK.due("FARNESS in the first one", two.tale(0, 0, 0, 0, false), 1);
        CHECK.due("FARNESS in the second one", two.tale(0, 0, 1, 3, false), 2);
    }

    @Says(in = "Promise 24", words = "NONE: there is none such (of any)")
    static void promise24_noneSuchAWarScoreVillagesOrVillage() {
        OneDrum x = villages();
        for (int likes = 0; likes < 2; likes++) {
            for (int none : Check.outside(0, 0)) {
                CHECK.due("war " + none, x.tale(none, 0, 0, 0, likes == 1), NONE);
                CHECK.due("score " + none, x.tale(0, none, 0, 0, likes == 1), NONE);
                CHECK.due("villages " + none, x.tale(0, 0, none, 0, likes == 1), NONE);
            }
            for (int v : Check.outside(0, 7)) {
                CHECK.due("village " + v, x.tale(0, 0, 0, v, likes == 1), NONE);
            }
            OneDrum one = Check.withVillages("", "", "last 8;");
            CHECK.due("village 1 of one", one.tale(0, 0, 0, 1, likes == 1), NONE);
        }
    }
}
