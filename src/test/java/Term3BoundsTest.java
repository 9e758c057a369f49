/** Term 3: the bounds of FORCE, BRIBES, MEANT, TRUCE and ECHOED, a test for each sentence. */
public final class Term3BoundsTest {
    private static final int NONE = OneDrum.NONE;
    private static final int LEFT = 1;
    private static final int RIGHT = 2;
    private static final Check CHECK = new Check();
    private static final String[] BEATS = {"rest", "tap", "flam", "roll"};

    public static void main(String[] args) {
        Sentences.run(Term3BoundsTest.class, CHECK);
    }

    // FORCE

    private static void force(String war, int army, int n, int first, int hold) {
        OneDrum x = Check.with(war, "");
        CHECK.due(war + " FORCE of " + army + " by " + n, x.force(0, army, LEFT, n, false), first);
        CHECK.due(war + " HOLD of " + army + " by " + n, x.force(0, army, LEFT, n, true), hold);
    }

    /** An army that goes left by each single beat. */
    private static String leftByAny(int army) {
        StringBuilder out = new StringBuilder();
        for (String beat : BEATS) {
            out.append("order ").append(army).append(" left ").append(beat).append(';');
        }
        return out.toString();
    }

    @Says(in = "Term 3", words = "FORCE of an ARMY, a MOVE, n, 0 .. 3: its GIVER gives n BEATS, the other one n")
    static void term3_forceIsBy0To3BeatsOfEach() {
        for (int army = 0; army < 2; army++) {
            force(leftByAny(army), army, 0, NONE, 0);
            force(leftByAny(army), army, 1, 0, 4);
            force(leftByAny(army), army, 2, 0, 16);
            force(leftByAny(army), army, 3, 0, 64);
        }
        force("from 0 1;" + leftByAny(0), 0, 1, 0, 4);
        force("from 0 2;" + leftByAny(0), 0, 1, NONE, 0);
        force("from 0 3;" + leftByAny(0), 0, 2, 0, 16);
    }

    @Says(in = "Term 3", words = "the first row of his by numbers (as figures base 4, the first BEAT the highest)")
    static void term3_theFirstBeatIsTheHighestFigure() {
        force("step 0 4;order 0 left roll;", 0, 2, 12, 4);
        force("from 0 2;step 0 4;order 0 left roll;", 0, 2, 3, 4);
        force("step 0 4;order 0 left roll;", 0, 3, 3, 28);
        force("from 1 1;step 1 4;order 1 left tap;", 1, 2, 4, 4);
        force("from 1 3;step 1 4;order 1 left tap;", 1, 2, 1, 4);
        force("turn 3;order 0 left roll roll roll;", 0, 3, 63, 1);
        force("turn 3;order 1 left roll roll roll;", 1, 3, 63, 1);
        force("turn 3;order 0 left tap flam roll;", 0, 3, 27, 1);
    }

    @Says(in = "Term 3", words = "by which, whatever the other one gives, that MOVE is among those MADE by the ARMY; none")
    static void term3_forceHoldsWhateverTheOtherOneGives() {
        force("order 0 left tap;", 0, 1, 1, 1);
        force("order 0 left tap;order 0 right tap roll;", 0, 1, NONE, 0);
        force("order 0 left tap;order 0 right tap rest;", 0, 1, NONE, 0);
        force("from 0 1;order 0 left tap;", 0, 1, NONE, 0);
        force("turn 2;order 0 left tap flam;", 0, 2, 6, 1);
        force("turn 1;order 0 left tap flam;", 0, 2, NONE, 0);
        force("order 1 left tap;", 1, 1, 1, 1);
        force("order 1 left tap;order 1 right roll tap;", 1, 1, NONE, 0);
        force("order 0 right tap;", 0, 3, NONE, 0);
        force("tired 1;order 0 left tap;", 0, 3, NONE, 0);
    }

    @Says(in = "Term 3", words = "HOLD of these: how many such rows")
    static void term3_holdIsHowManyRows() {
        force("order 0 left tap;", 0, 2, 1, 7);
        force("order 0 left tap;", 0, 3, 1, 37);
        force("tired 1;order 0 left rest;", 0, 3, 0, 64);
        force("", 0, 3, NONE, 0);
    }

    // BRIBES

    private static void bribes(String war, String score, String hearing, int ways, int fewest, int which) {
        OneDrum x = Check.withHearing(war, score, hearing);
        String name = war + score + hearing;
        CHECK.due(name + " ways", x.bribes(0, 0, 0, 0), ways);
        CHECK.due(name + " fewest", x.bribes(0, 0, 0, 1), fewest);
        CHECK.due(name + " which", x.bribes(0, 0, 0, 2), which);
    }

    private static String taps(int zero, int one) {
        return Check.gives(Check.times(zero, "tap"), Check.times(one, "tap"));
    }

    @Says(in = "Term 3", words = "BRIBES by a HEARING")
    static void term3_bribesAreByThatHearing() {
        OneDrum x = Check.withHearing("order 0 left tap;", taps(3, 0), "made 0 left;");
        Check.text(x, 2, NONE, "made 0 left left;");
        int[][] due = {{3, 2, 3}, {3, 1, 1}};
        for (int hearing = 0; hearing < 2; hearing++) {
            for (int what = 0; what < 3; what++) {
                CHECK.due("bribes(0, 0, " + hearing + ", " + what + ")", x.bribes(0, 0, hearing, what), due[hearing][what]);
            }
        }
    }

    @Says(in = "Term 3", words = "places of the ROW (bits; at most 12 BEATS)")
    static void term3_bribesAreOfARowOfAtMost12Beats() {
        bribes("", "", "", 1, 0, 0);
        bribes("", taps(1, 0), "", 2, 0, 0);
        bribes("", taps(12, 0), "", 4096, 0, 0);
        bribes("", taps(0, 12), "", 4096, 0, 0);
        bribes("", taps(6, 6), "", 4096, 0, 0);
        bribes("", taps(12, 1), "", NONE, NONE, NONE);
        bribes("", taps(1, 12), "", NONE, NONE, NONE);
        bribes("", taps(7, 6), "", NONE, NONE, NONE);
        bribes("", taps(12, 12), "", NONE, NONE, NONE);
        bribes("from 0 3;step 0 4;order 0 left tap tap rest;", taps(12, 0), "made 0 left;", 512, 1, 2048);
        bribes("order 0 left tap;", taps(12, 0), "made 0;", 1, 12, 4095);
    }

    @Says(in = "Term 3", words = "none of which holds a REST")
    static void term3_noBribedPlaceHoldsARest() {
        bribes("", "gives 0" + Check.times(12, "rest") + ";", "", 1, 0, 0);
        bribes("", "gives 0 rest tap rest roll;", "", 4, 0, 0);
        bribes("wet rest tap;order 0 left tap;", "gives 0 rest roll;", "made 0 left left;", 1, 1, 2);
        bribes("tired 1;", taps(3, 0), "", 8, 0, 0);
    }

    @Says(in = "Term 3", words = "that were RESTS in truth (ahead of all else)")
    static void term3_bribedRestsComeAheadOfAllElse() {
        bribes("wet rest tap;order 0 left tap;", "gives 0 roll;", "made 0 left;", 1, 1, 1);
        bribes("tired 1;order 0 left rest;", "gives 0 tap;", "made 0 left;", 2, 0, 0);
        bribes("echo 1;order 0 left flam;order 0 right tap;", "gives 0 flam roll;", "made 0 left right;", 1, 1, 2);
        bribes("echo 1;order 0 left flam;order 0 right tap;", "gives 0 flam tap;", "made 0 left right;", 2, 0, 0);
        bribes("echo 1;order 0 right tap;", "gives 0 flam rest;", "made 0;", 1, 1, 1);
    }

    @Says(in = "Term 3", words = "so that of each ARMY told of just these MOVES were MADE")
    static void term3_justTheMovesToldWereMadeByEachArmyToldOf() {
        String war = "order 0 left tap;order 1 right flam;";
        bribes(war, taps(3, 0), "made 0 left;", 3, 2, 3);
        bribes(war, taps(3, 0), "made 0 left left left;", 1, 0, 0);
        bribes(war, taps(3, 0), "made 0 left left left left;", 0, NONE, NONE);
        bribes(war, taps(3, 0), "made 0 right;", 0, NONE, NONE);
        bribes(war, taps(7, 0), "made 0 left left left left left left;", 7, 1, 1);
        bribes(war, "gives 0 tap flam;", "made 0 left;", 2, 0, 0);
        bribes(war, "gives 0 tap flam;", "made 0 left;made 1 right;", 1, 0, 0);
        bribes(war, "gives 0 tap flam;", "made 0;made 1 right;", 1, 1, 1);
        bribes(war, "gives 0 tap flam;", "made 0;made 1;", 1, 2, 3);
        bribes(war, "gives 0 tap flam;", "made 1;", 2, 1, 2);
        bribes(war, "", "made 0;made 1;", 1, 0, 0);
        bribes(war, "", "made 0 left;", 0, NONE, NONE);
    }

    @Says(in = "Term 3", words = "in how many ways; the fewest places; which, of several the least")
    static void term3_whichIsTheLeastOfThoseOfTheFewestPlaces() {
        // by places 0 and 1, which are less as bits, or by place 2, which is one place alone
        String war = "order 0 left rest rest roll;order 0 left tap tap rest;";
        bribes(war, "gives 0 tap tap roll;", "made 0 left;", 2, 1, 4);
        bribes("order 0 left tap;", taps(6, 6), "made 0 left left left left left left;", 924, 6, 63);
        bribes("order 0 left tap;", taps(4, 0), "made 0 left left left;", 4, 1, 1);
    }

    // MEANT

    private static void meant(String war, String score, String hearing, int n, int ways, int first) {
        OneDrum x = Check.withHearing(war, score, hearing);
        String name = war + score + hearing + " by " + n;
        CHECK.due(name + " ways", x.meant(0, 0, 0, n, false), ways);
        CHECK.due(name + " first", x.meant(0, 0, 0, n, true), first);
    }

    @Says(in = "Term 3", words = "MEANT, n, 0 .. 5")
    static void term3_meantIsOf0To5Beats() {
        for (int n = 0; n <= 5; n++) {
            meant("", "", "", n, 1 << (2 * n), 0);
            meant("order 0 left roll;", "", "made 0" + Check.times(n, "left") + ";", n, 1, (1 << (2 * n)) - 1);
            meant("order 0 left roll;", "", "made 0" + Check.times(n + 1, "left") + ";", n, 0, NONE);
        }
        meant("order 0 left flam;", taps(12, 0), "made 0 left;", 5, 405, 2);
    }

    @Says(in = "Term 3", words = "the SCORE's GIVER 0 gave what is told, GIVER 1 unknown n BEATS (what is told of him aside)")
    static void term3_whatIsToldOfGiver1IsAside() {
        String war = "order 0 left tap;order 0 right roll;";
        String full = Check.gives("tap", Check.times(12, "roll"));
        meant(war, full, "made 0 left;", 0, 1, 0);
        meant(war, full, "made 0 left right;", 0, 0, NONE);
        meant(war, full, "made 0 left right;", 1, 1, 3);
        meant(war, full, "made 0 left;", 1, 2, 0);
        meant(war, "gives 1 tap;", "made 0 left;", 0, 0, NONE);
        OneDrum x = Check.withHearing(war, full, "made 0 left;");
        x.meant(0, 0, 0, 3, false);
        CHECK.due("the score stays as it is told", x.given(0, 1, NONE), 12);
        CHECK.due("the score stays as it is told", x.given(0, 1, 0), 3);
    }

    @Says(in = "Term 3", words = "in how many ways all is as HEARD of; the first by numbers. TRUCE")
    static void term3_meantIsHowManyWaysAndTheFirst() {
        String war = "order 0 left tap;order 1 right flam;";
        meant(war, "", "made 0 left;", 2, 6, 1);
        meant(war, "", "made 0 left;made 1 right;", 2, 2, 6);
        meant(war, "", "made 0 left;made 1;", 2, 4, 1);
        meant(war, "", "made 1 right right;", 2, 1, 10);
        meant(war, "", "made 0 right;", 2, 0, NONE);
    }

    // TRUCE

    private static void truce(String war, int one, int other, int many, int row) {
        OneDrum x = Check.with(war, "");
        CHECK.due(war + " TRUCE", x.truce(0, one, other, false), many);
        CHECK.due(war + " its row", x.truce(0, one, other, true), row);
    }

    @Says(in = "Term 3", words = "TRUCE of two MOVES: the fewest BEATS, 0 .. 5, given by GIVER 0 alone")
    static void term3_aTruceTakesAtMost5Beats() {
        for (int turn = 1; turn <= 4; turn++) {
            String war = "turn " + turn + ";order 0 left tap;order 1 right";
            truce(war + " tap;", LEFT, RIGHT, 1, 1);
            truce(war + " roll;", LEFT, RIGHT, 2, 7);
            truce(war + " roll roll;", LEFT, RIGHT, 3, 31);
            truce(war + " roll roll roll;", LEFT, RIGHT, 4, 127);
            truce(war + " roll roll roll roll;", LEFT, RIGHT, 5, 511);
        }
        truce("order 0 left tap tap;order 1 right roll roll roll roll;", LEFT, RIGHT, NONE, NONE);
        OneDrum behindOthers = Check.withHearing("order 0 left tap;order 1 right roll;", taps(2, 2), "");
        behindOthers.force(0, 1, RIGHT, 3, true);
        behindOthers.meant(0, 0, 0, 5, false);
        CHECK.due("GIVER 0 alone, whoever gave before", behindOthers.truce(0, LEFT, RIGHT, false), 2);
        CHECK.due("its row", behindOthers.truce(0, LEFT, RIGHT, true), 7);
        truce("order 0 left tap;from 1 3;order 1 right roll roll;", LEFT, RIGHT, 5, 31);
        truce("order 0 left tap;from 1 3;order 1 right roll roll roll;", LEFT, RIGHT, NONE, NONE);
        truce("order 0 left rest;order 1 right rest;", LEFT, RIGHT, 1, 0);
        truce("step 0 4;from 1 1;order 0 left roll roll;order 1 right roll roll roll;", LEFT, RIGHT, 5, 831);
    }

    @Says(in = "Term 3", words = "by which ARMY 0 MADE the one, ARMY 1 the other one (among others); the first row by numbers")
    static void term3_aTruceIsTheFirstRowAmongOtherMoves() {
        String war = "order 0 left tap;order 0 halt flam;order 1 right flam;order 1 halt tap;";
        truce(war, LEFT, RIGHT, 2, 6);
        truce(war, 0, 0, 2, 6);
        truce(war, LEFT, 0, 1, 1);
        truce(war, 0, RIGHT, 1, 2);
        truce(war, RIGHT, LEFT, NONE, NONE);
        truce(war, LEFT, LEFT, NONE, NONE);
        truce("", 0, 0, NONE, NONE);
    }

    // ECHOED

    @Says(in = "Term 3", words = "ECHOED: MOVES of an ARMY among the BEATS of which there is an echo: how many")
    static void term3_echoedAreMovesOfWhichABeatIsAnEcho() {
        String score = "gives 0 flam flam rest rest tap tap;";
        echoed("order 0 left tap;", score, 0);
        echoed("echo 2;order 0 left tap;", score, 2);
        echoed("echo 2;order 0 left tap tap;", score, 1);
        echoed("echo 2;order 0 left flam tap tap tap;", score, 1);
        echoed("echo 2;", score, 0);
        echoed("echo 2;order 0 left flam;", score, 0);
        echoed("echo 2;from 0 1;step 0 3;order 0 left tap;", score, 0);
        echoed("echo 2;step 0 2;order 0 left tap;", score, 1);
        echoed("", "", 0);
        OneDrum all = Check.with("echo 1;order 0 left tap;", Check.gives(Check.times(12, "flam"), Check.times(12, "rest")));
        CHECK.due("twelve", all.made(0, 0, 0, NONE, 2), 12);
    }

    private static void echoed(String war, String score, int due) {
        CHECK.due(war + score + " ECHOED", Check.with(war, score).made(0, 0, 0, NONE, 2), due);
    }
}
