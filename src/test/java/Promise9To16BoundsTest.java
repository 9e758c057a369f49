/** Promises 9 to 16: their bounds and refused calls, a test for each sentence. */
public final class Promise9To16BoundsTest {
    private static final int NONE = OneDrum.NONE;
    private static final int LEFT = 1;
    private static final Check CHECK = new Check();
    private static final String WAR = "echo 2;order 0 left tap;order 0 right flam;order 1 charge roll;";
    private static final String FULL = Check.gives("flam" + Check.times(10, "rest") + " tap", Check.times(11, "rest") + " roll");

    public static void main(String[] args) {
        Sentences.run(Promise9To16BoundsTest.class, CHECK);
    }

    /** One of each that the row's calls go by; the row has 24 beats: 2 0 1 0 .. 0 1 3, an echo at place 2. */
    private static OneDrum full() {
        return Check.with(WAR, FULL);
    }

    // Promise 9

    @Says(in = "Promise 9", words = "How many BEATS the ROW has (k NONE, what 0)")
    static void promise9_howManyBeatsFrom0To24() {
        CHECK.due("none", Check.with(WAR, "").row(0, 0, NONE, 0), 0);
        CHECK.due("one", Check.with(WAR, "gives 1 tap;").row(0, 0, NONE, 0), 1);
        CHECK.due("24", full().row(0, 0, NONE, 0), 24);
    }

    @Says(in = "Promise 9", words = {"of place k, from 0 on, what 0: the BEAT given, 1: its GIVER, 2: the one PLAYED, ",
        "3: 1 if that is an echo, else 0"})
    static void promise9_theFirstAndTheLastPlace() {
        OneDrum x = full();
        int[][] due = {{2, 0, 2, 0}, {0, 1, 0, 0}, {0, 0, 1, 1}};
        for (int what = 0; what < 4; what++) {
            for (int k = 0; k < 3; k++) {
                CHECK.due("row(0, 0, " + k + ", " + what + ")", x.row(0, 0, k, what), due[k][what]);
            }
        }
        int[][] last = {{1, 0, 1, 0}, {3, 1, 3, 0}};
        for (int what = 0; what < 4; what++) {
            CHECK.due("row(0, 0, 22, " + what + ")", x.row(0, 0, 22, what), last[0][what]);
            CHECK.due("row(0, 0, 23, " + what + ")", x.row(0, 0, 23, what), last[1][what]);
        }
    }

    @Says(in = "Promise 9", words = "-2: there is none such (of any)")
    static void promise9_noneSuchAWarScoreOrPlace() {
        for (int what = 0; what < 4; what++) {
            OneDrum x = full();
            for (int none : Check.outside(0, 0)) {
                CHECK.due("war " + none, x.row(none, 0, 0, what), -2);
                CHECK.due("score " + none, x.row(0, none, 0, what), -2);
            }
            for (int k : Check.outside(NONE, 23)) {
                CHECK.due("place " + k, x.row(0, 0, k, what), -2);
            }
            CHECK.due("place 0 of none", Check.with(WAR, "").row(0, 0, 0, what), -2);
            CHECK.due("place 1 of one", Check.with(WAR, "gives 0 tap;").row(0, 0, 1, what), -2);
        }
        OneDrum y = full();
        for (int none : Check.outside(0, 0)) {
            CHECK.due("how many of war " + none, y.row(none, 0, NONE, 0), -2);
            CHECK.due("how many of score " + none, y.row(0, none, NONE, 0), -2);
        }
        y.text(0, NONE);
        y.text(1, NONE);
        CHECK.due("war 1, score 1", y.row(1, 1, NONE, 0), 0);
        CHECK.due("war 2", y.row(2, 1, NONE, 0), -2);
        CHECK.due("score 2", y.row(1, 2, NONE, 0), -2);
    }

    @Says(in = "Promise 9", words = "or for another what")
    static void promise9_minus2ForAnotherWhat() {
        OneDrum x = full();
        for (int what : Check.but(0, 1, 2, 3)) {
            CHECK.due("row(0, 0, 2, " + what + ")", x.row(0, 0, 2, what), -2);
        }
        for (int what : Check.but(0)) {
            CHECK.due("row(0, 0, NONE, " + what + ")", x.row(0, 0, NONE, what), -2);
        }
    }

    // Promise 10

    @Says(in = "Promise 10", words = "How many BEATS an ARMY HEARS (k NONE), or BEAT k")
    static void promise10_howManyOrBeatK() {
        OneDrum x = full();
        for (int army = 0; army < 2; army++) {
            CHECK.due("24", x.heard(0, 0, army, NONE), 24);
            CHECK.due("BEAT 0", x.heard(0, 0, army, 0), 2);
            CHECK.due("BEAT 23", x.heard(0, 0, army, 23), 3);
        }
        OneDrum late = Check.with("from 0 3;step 1 4;", "gives 0 tap flam roll;");
        CHECK.due("none", late.heard(0, 0, 0, NONE), 0);
        CHECK.due("one", late.heard(0, 0, 1, NONE), 1);
        CHECK.due("BEAT 0", late.heard(0, 0, 1, 0), 1);
    }

    @Says(in = "Promise 10", words = "NONE: there is none such (of any)")
    static void promise10_noneSuchAWarScoreArmyOrBeat() {
        OneDrum x = full();
        for (int k = NONE; k <= 0; k++) {
            for (int none : Check.outside(0, 0)) {
                CHECK.due("war " + none, x.heard(none, 0, 0, k), NONE);
                CHECK.due("score " + none, x.heard(0, none, 0, k), NONE);
            }
            for (int army : Check.outside(0, 1)) {
                CHECK.due("army " + army, x.heard(0, 0, army, k), NONE);
            }
        }
        for (int k : Check.outside(NONE, 23)) {
            CHECK.due("BEAT " + k, x.heard(0, 0, 0, k), NONE);
            CHECK.due("BEAT " + k, x.heard(0, 0, 1, k), NONE);
        }
        OneDrum late = Check.with("from 0 3;step 1 2;", "gives 0 tap flam roll;");
        CHECK.due("BEAT 0 of none", late.heard(0, 0, 0, 0), NONE);
        CHECK.due("BEAT 2 of two", late.heard(0, 0, 1, 2), NONE);
    }

    // Promise 11

    private static OneDrum allMade() {
        return Check.with("order 0 left tap;order 0 right roll;", Check.gives(Check.times(12, "tap"), Check.times(11, "tap") + " roll"));
    }

    @Says(in = "Promise 11", words = {"How many MOVES an ARMY MADE (k NONE, what 0), how many BEATS it DANCED to (k NONE, what 1), ",
        "ECHOED (k NONE, what 2)"})
    static void promise11_howManyMadeDancedToAndEchoed() {
        OneDrum all = allMade();
        int[][] due = {{24, 0, 0}, {0, 24, 0}};
        OneDrum x = full();
        int[][] echo = {{3, 21, 1}, {1, 23, 0}};
        OneDrum none = Check.with(WAR, "");
        for (int army = 0; army < 2; army++) {
            for (int what = 0; what < 3; what++) {
                CHECK.due("made(0, 0, " + army + ", NONE, " + what + ")", all.made(0, 0, army, NONE, what), due[army][what]);
                CHECK.due("made(0, 0, " + army + ", NONE, " + what + ")", x.made(0, 0, army, NONE, what), echo[army][what]);
                CHECK.due("of none", none.made(0, 0, army, NONE, what), 0);
            }
        }
    }

    @Says(in = "Promise 11", words = {"of MOVE k, what 0: which, 1: the place of its first BEAT, 2: its ORDER, ",
        "3: 0 PURE, 1 MIXED, 2 FOREIGN"})
    static void promise11_theFirstAndTheLastMove() {
        OneDrum all = allMade();
        int[] first = {1, 0, 0, 0};
        int[] last = {2, 23, 1, 2};
        OneDrum late = Check.with("from 1 3;step 1 4;order 1 left tap;order 1 halt roll roll;",
            Check.gives(Check.times(12, "roll"), Check.times(12, "roll")));
        int[] lateLast = {0, 19, 1, 0};
        for (int what = 0; what < 4; what++) {
            CHECK.due("MOVE 0, " + what, all.made(0, 0, 0, 0, what), first[what]);
            CHECK.due("MOVE 23, " + what, all.made(0, 0, 0, 23, what), last[what]);
            CHECK.due("MOVE 2 of six BEATS HEARD, " + what, late.made(0, 0, 1, 2, what), lateLast[what]);
        }
        OneDrum mixed = Check.with("order 0 left tap tap;order 1 left tap tap;", "gives 0 tap;gives 1 tap;");
        CHECK.due("MIXED", mixed.made(0, 0, 0, 0, 3), 1);
        CHECK.due("MIXED", mixed.made(0, 0, 1, 0, 3), 1);
    }

    @Says(in = "Promise 11", words = "-2: there is none such (of any)")
    static void promise11_noneSuchAWarScoreArmyOrMove() {
        for (int what = 0; what < 3; what++) {
            OneDrum x = full();
            for (int k = NONE; k <= 0; k++) {
                for (int none : Check.outside(0, 0)) {
                    CHECK.due("war " + none, x.made(none, 0, 0, k, what), -2);
                    CHECK.due("score " + none, x.made(0, none, 0, k, what), -2);
                }
                for (int army : Check.outside(0, 1)) {
                    CHECK.due("army " + army, x.made(0, 0, army, k, what), -2);
                }
            }
        }
        for (int what = 0; what < 4; what++) {
            OneDrum x = full();
            OneDrum all = allMade();
            for (int k : Check.outside(NONE, 2)) {
                CHECK.due("MOVE " + k + " of three", x.made(0, 0, 0, k, what), -2);
                CHECK.due("MOVE " + k + " of one", x.made(0, 0, 1, k, what), -2);
            }
            CHECK.due("MOVE 1 of one", x.made(0, 0, 1, 1, what), -2);
            CHECK.due("MOVE 24 of 24", all.made(0, 0, 0, 24, what), -2);
            CHECK.due("MOVE 0 of none", all.made(0, 0, 1, 0, what), -2);
        }
    }

    @Says(in = "Promise 11", words = "or for another what")
    static void promise11_minus2ForAnotherWhat() {
        OneDrum x = full();
        for (int what : Check.but(0, 1, 2, 3)) {
            CHECK.due("made(0, 0, 0, 0, " + what + ")", x.made(0, 0, 0, 0, what), -2);
        }
        for (int what : Check.but(0, 1, 2)) {
            CHECK.due("made(0, 0, 0, NONE, " + what + ")", x.made(0, 0, 0, NONE, what), -2);
        }
    }

    // Promise 12

    @Says(in = "Promise 12", words = "MARCH: where an ARMY is behind step t, 0 .. 24")
    static void promise12_whereAnArmyIsBehindStep0To24() {
        OneDrum x = Check.with("place 0 20;place 1 0;order 0 right tap;order 1 left tap;",
            Check.gives(Check.times(12, "tap"), Check.times(12, "tap")));
        CHECK.due("step 0", x.march(0, 0, 0, 0), 20);
        CHECK.due("step 24", x.march(0, 0, 0, 24), 44);
        CHECK.due("step 0", x.march(0, 0, 1, 0), 0);
        CHECK.due("step 1", x.march(0, 0, 1, 1), -1);
        CHECK.due("step 2, which is no -2 for none such", x.march(0, 0, 1, 2), -2);
        CHECK.due("step 24", x.march(0, 0, 1, 24), -24);
    }

    @Says(in = "Promise 12", words = "-1000: there is none such (of any)")
    static void promise12_noneSuchAWarScoreOrArmy() {
        OneDrum x = full();
        for (int t = 0; t <= 24; t += 24) {
            for (int none : Check.outside(0, 0)) {
                CHECK.due("war " + none, x.march(none, 0, 0, t), -1000);
                CHECK.due("score " + none, x.march(0, none, 0, t), -1000);
            }
            for (int army : Check.outside(0, 1)) {
                CHECK.due("army " + army, x.march(0, 0, army, t), -1000);
            }
        }
    }

    @Says(in = "Promise 12", words = "or another t")
    static void promise12_minus1000ForAnotherT() {
        OneDrum x = full();
        for (int t : Check.outside(0, 24)) {
            CHECK.due("of 0 at " + t, x.march(0, 0, 0, t), -1000);
            CHECK.due("of 1 at " + t, x.march(0, 0, 1, t), -1000);
        }
    }

    // Promise 13

    @Says(in = "Promise 13", words = "The step at which they MEET. NONE: at none")
    static void promise13_theStepOrNoneAtNone() {
        CHECK.due("at 0", Check.with("place 1 0;", "").meets(0, 0), 0);
        CHECK.due("at 1", Check.with("place 1 1;order 0 right tap;", "gives 0 tap;").meets(0, 0), 1);
        CHECK.due("at none", Check.with("place 1 2;order 0 right tap;", "gives 0 tap;").meets(0, 0), NONE);
        String war = "turn 4;place 1 20;order 0 halt flam;order 0 right tap;";
        String score = Check.gives(Check.times(4, "flam") + Check.times(8, "tap"), Check.times(12, "tap"));
        CHECK.due("at 24", Check.with(war, score).meets(0, 0), 24);
        CHECK.due("at 25 they would", Check.with(war + "lag 0 1;", score).meets(0, 0), NONE);
    }

    @Says(in = "Promise 13", words = "or there is none such (of either)")
    static void promise13_noneSuchAWarOrScore() {
        OneDrum x = Check.with("place 1 0;", "");
        for (int none : Check.outside(0, 0)) {
            CHECK.due("war " + none, x.meets(none, 0), NONE);
            CHECK.due("score " + none, x.meets(0, none), NONE);
        }
        Check.text(x, 0, NONE, "place 1 0;");
        CHECK.due("war 1", x.meets(1, 0), 0);
        CHECK.due("score 1", x.meets(1, 1), NONE);
        CHECK.due("war 2", x.meets(2, 0), NONE);
    }

    // Promise 14

    @Says(in = "Promise 14", words = "FORCE: the first row, as a number (NONE: none)")
    static void promise14_theFirstRowOrNone() {
        OneDrum x = Check.with("turn 3;order 0 left roll roll roll;"
            + "order 1 left tap;order 1 right rest;order 1 right flam;order 1 right roll;", "");
        for (int n = 0; n <= 3; n++) {
            CHECK.due("by " + n, x.force(0, 0, LEFT, n, false), n == 3 ? 63 : NONE);
            CHECK.due("no such ORDER, by " + n, x.force(0, 0, 0, n, false), NONE);
            CHECK.due("RETREAT, by " + n, x.force(0, 0, 4, n, false), NONE);
        }
        CHECK.due("by none", x.force(0, 1, LEFT, 0, false), NONE);
        CHECK.due("by one", x.force(0, 1, LEFT, 1, false), 1);
        CHECK.due("a row of number 0", x.force(0, 1, 2, 1, false), 0);
    }

    @Says(in = "Promise 14", words = "or (many) HOLD")
    static void promise14_manyIsHold() {
        OneDrum x = Check.with("turn 3;order 0 left roll roll roll;order 1 left tap;", "");
        int[] due = {0, 1, 7, 37};
        for (int n = 0; n <= 3; n++) {
            CHECK.due("by " + n, x.force(0, 0, LEFT, n, true), n == 3 ? 1 : 0);
            CHECK.due("by " + n, x.force(0, 1, LEFT, n, true), due[n]);
            CHECK.due("none is 0", x.force(0, 0, 4, n, true), 0);
        }
    }

    @Says(in = "Promise 14", words = "-2: there is none such (of any)")
    static void promise14_noneSuchAWarArmyOrMove() {
        OneDrum x = Check.with(WAR, "");
        for (int many = 0; many < 2; many++) {
            for (int war : Check.outside(0, 0)) {
                CHECK.due("war " + war, x.force(war, 0, LEFT, 1, many == 1), -2);
            }
            for (int army : Check.outside(0, 1)) {
                CHECK.due("army " + army, x.force(0, army, LEFT, 1, many == 1), -2);
            }
            for (int move : Check.outside(0, 4)) {
                CHECK.due("move " + move, x.force(0, 0, move, 1, many == 1), -2);
            }
        }
    }

    @Says(in = "Promise 14", words = "or another n")
    static void promise14_minus2ForAnotherN() {
        OneDrum x = Check.with(WAR, "");
        for (int n : Check.outside(0, 3)) {
            CHECK.due("n " + n, x.force(0, 0, LEFT, n, false), -2);
            CHECK.due("n " + n, x.force(0, 0, LEFT, n, true), -2);
        }
    }

    // Promise 15

    @Says(in = "Promise 15", words = "How many MOVES are told of an ARMY (k NONE; NONE: nothing is told), or MOVE k")
    static void promise15_howManyNoneIfNothingIsToldOrMoveK() {
        OneDrum x = new OneDrum();
        Check.text(x, 2, NONE, "made 0 retreat halt halt halt halt charge;");
        CHECK.due("six", x.told(0, 0, NONE), 6);
        CHECK.due("MOVE 0", x.told(0, 0, 0), 4);
        CHECK.due("MOVE 5", x.told(0, 0, 5), 3);
        CHECK.due("nothing", x.told(0, 1, NONE), NONE);
        Check.text(x, 2, NONE, "made 1;");
        CHECK.due("nothing", x.told(1, 0, NONE), NONE);
        CHECK.due("none", x.told(1, 1, NONE), 0);
    }

    @Says(in = "Promise 15", words = "-2: there is none such (of any)")
    static void promise15_noneSuchAHearingArmyOrMove() {
        OneDrum x = new OneDrum();
        Check.text(x, 2, NONE, "made 0 left left left left left left;");
        for (int k = NONE; k <= 0; k++) {
            for (int hearing : Check.outside(0, 0)) {
                CHECK.due("hearing " + hearing, x.told(hearing, 0, k), -2);
            }
            for (int army : Check.outside(0, 1)) {
                CHECK.due("army " + army, x.told(0, army, k), -2);
            }
        }
        for (int k : Check.outside(NONE, 5)) {
            CHECK.due("MOVE " + k + " of six", x.told(0, 0, k), -2);
        }
        for (int k : Check.outside(NONE, NONE)) {
            CHECK.due("MOVE " + k + " of nothing told", x.told(0, 1, k), -2);
        }
        Check.text(x, 2, NONE, "made 1;made 0 left;");
        CHECK.due("MOVE 0 of none", x.told(1, 1, 0), -2);
        CHECK.due("MOVE 1 of one", x.told(1, 0, 1), -2);
    }

    // Promise 16

    @Says(in = "Promise 16", words = "BRIBES, what 0: in how many ways, 1: the fewest places, 2: which (bits)")
    static void promise16_waysFewestAndWhich() {
        OneDrum x = Check.withHearing("order 0 left tap;", Check.gives(Check.times(6, "tap"), Check.times(6, "tap")), "made 0 left;");
        int[] due = {12, 11, 2047};
        OneDrum all = Check.withHearing("", Check.gives(Check.times(12, "tap"), ""), "");
        int[] dueOfAll = {4096, 0, 0};
        OneDrum none = Check.withHearing("", "", "made 0;");
        int[] dueOfNone = {1, 0, 0};
        for (int what = 0; what < 3; what++) {
            CHECK.due("of twelve " + what, x.bribes(0, 0, 0, what), due[what]);
            CHECK.due("nothing told " + what, all.bribes(0, 0, 0, what), dueOfAll[what]);
            CHECK.due("no row " + what, none.bribes(0, 0, 0, what), dueOfNone[what]);
        }
    }

    @Says(in = "Promise 16", words = "NONE: in none (1, 2)")
    static void promise16_noneIfInNoneBut0Ways() {
        OneDrum x = Check.withHearing("order 0 left tap;", "gives 0 tap;", "made 0 left left;");
        CHECK.due("ways", x.bribes(0, 0, 0, 0), 0);
        CHECK.due("fewest", x.bribes(0, 0, 0, 1), NONE);
        CHECK.due("which", x.bribes(0, 0, 0, 2), NONE);
    }

    @Says(in = "Promise 16", words = "the ROW has more than 12 BEATS")
    static void promise16_noneIfTheRowHasMoreThan12Beats() {
        for (int zero = 0; zero <= 12; zero++) {
            OneDrum x = Check.withHearing("", Check.gives(Check.times(zero, "tap"), Check.times(12 - zero, "tap")), "");
            CHECK.due("12", x.bribes(0, 0, 0, 0), 4096);
            OneDrum y = Check.withHearing("", Check.gives(Check.times(zero, "tap"), Check.times(Math.min(12, 13 - zero), "tap")), "");
            for (int what = 0; what < 3 && zero > 0; what++) {
                CHECK.due("13", y.bribes(0, 0, 0, what), NONE);
            }
        }
        OneDrum z = Check.withHearing("", Check.gives(Check.times(12, "rest"), Check.times(12, "rest")), "");
        for (int what = 0; what < 3; what++) {
            CHECK.due("24", z.bribes(0, 0, 0, what), NONE);
        }
    }

    @Says(in = "Promise 16", words = "there is none such (of any)")
    static void promise16_noneSuchAWarScoreOrHearing() {
        OneDrum x = Check.withHearing("", "", "");
        for (int none : Check.outside(0, 0)) {
            for (int what = 0; what < 3; what++) {
                CHECK.due("war " + none, x.bribes(none, 0, 0, what), NONE);
                CHECK.due("score " + none, x.bribes(0, none, 0, what), NONE);
                CHECK.due("hearing " + none, x.bribes(0, 0, none, what), NONE);
            }
        }
    }

    @Says(in = "Promise 16", words = "or for another what")
    static void promise16_noneForAnotherWhat() {
        OneDrum x = Check.withHearing("", "", "");
        for (int what : Check.but(0, 1, 2)) {
            CHECK.due("bribes(0, 0, 0, " + what + ")", x.bribes(0, 0, 0, what), NONE);
        }
    }
}
