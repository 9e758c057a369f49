/** Term 2: the bounds of the ROW, of what is PLAYED, HEARD and MADE, of MARCH and MEET, a test for each sentence. */
public final class Term2BoundsTest {
    private static final int NONE = OneDrum.NONE;
    private static final Check CHECK = new Check();
    private static final String[] BEATS = {"rest", "tap", "flam", "roll"};

    public static void main(String[] args) {
        Sentences.run(Term2BoundsTest.class, CHECK);
    }

    /** So many beats, each another one than that ahead of it, from one of them on. */
    private static String mixed(int many, int from) {
        StringBuilder out = new StringBuilder();
        for (int i = 0; i < many; i++) {
            out.append(' ').append(BEATS[(from + i) % 4]);
        }
        return out.toString();
    }

    private static void played(OneDrum x, int... due) {
        CHECK.due("length", x.row(0, 0, NONE, 0), due.length);
        for (int k = 0; k < due.length; k++) {
            CHECK.due("played at " + k, x.row(0, 0, k, 2), due[k]);
        }
    }

    // the ROW

    /** Who gives at each place, told by what each one has left. */
    private static String givers(int turn, int zero, int one) {
        StringBuilder out = new StringBuilder();
        int[] left = {zero, one};
        for (int who = 0; left[0] + left[1] > 0; who = 1 - who) {
            for (int i = 0; i < turn && left[who] > 0; i++) {
                out.append(who);
                left[who]--;
            }
        }
        return out.toString();
    }

    private static void row(int turn, int zero, int one) {
        OneDrum x = Check.with("turn " + turn + ";", Check.gives(mixed(zero, 1), mixed(one, 3)));
        String due = givers(turn, zero, one);
        String name = "turn " + turn + ", " + zero + " and " + one;
        int[] given = {0, 0};
        CHECK.due(name + ": length", x.row(0, 0, NONE, 0), zero + one);
        for (int k = 0; k < due.length(); k++) {
            int who = due.charAt(k) - '0';
            CHECK.due(name + ": GIVER at " + k, x.row(0, 0, k, 1), who);
            CHECK.due(name + ": BEAT at " + k, x.row(0, 0, k, 0), (given[who] + (who == 0 ? 1 : 3)) % 4);
            given[who]++;
        }
        CHECK.due(name + ": none behind", x.row(0, 0, due.length(), 1), -2);
    }

    private static void rowIs(OneDrum x, int war, int score, String due) {
        CHECK.due("length of " + score + " in " + war, x.row(war, score, NONE, 0), due.length());
        for (int k = 0; k < due.length(); k++) {
            CHECK.due("BEAT " + k + " of " + score + " in " + war, x.row(war, score, k, 0), due.charAt(k) - '0');
        }
    }

    @Says(in = "Term 2", words = "The ROW of a SCORE in a WAR")
    static void term2_theRowIsOfThatScoreInThatWar() {
        OneDrum x = Check.with("turn 1;", "gives 0 tap tap;gives 1 roll roll;");
        Check.text(x, 0, NONE, "turn 2;");
        Check.text(x, 1, NONE, "gives 0 flam flam;gives 1 rest rest rest;");
        rowIs(x, 0, 0, "1313");
        rowIs(x, 1, 0, "1133");
        rowIs(x, 0, 1, "20200");
        rowIs(x, 1, 1, "22000");
    }

    @Says(in = "Term 2", words = "by turns, GIVER 0 first, each gives his next TURN BEATS")
    static void term2_eachGivesTurnBeatsByTurns() {
        for (int turn = 1; turn <= 4; turn++) {
            row(turn, 12, 12);
            row(turn, turn, turn);
            row(turn, 2 * turn, 2 * turn);
        }
    }

    @Says(in = "Term 2", words = "(as many as he has left, if they are fewer; then the other one goes on), till neither has any")
    static void term2_whoHasFewerGivesThemAndTheOtherOneGoesOn() {
        for (int turn = 1; turn <= 4; turn++) {
            for (int zero = 0; zero <= 12; zero++) {
                for (int one = 0; one <= 12; one++) {
                    row(turn, zero, one);
                }
            }
        }
    }

    // PLAYED

    @Says(in = "Term 2", words = "PLAYED: of the ROW, places from 1 on, each that TIRED divides (0: none) is a REST")
    static void term2_eachPlaceThatTiredDividesIsARest() {
        for (int tired = 0; tired <= 9; tired++) {
            OneDrum x = Check.with("tired " + tired + ";", Check.gives(Check.times(12, "roll"), Check.times(12, "roll")));
            for (int place = 1; place <= 24; place++) {
                int due = tired != 0 && place / tired * tired == place ? 0 : 3;
                CHECK.due("tired " + tired + " at " + place, x.row(0, 0, place - 1, 2), due);
                CHECK.due("what was given", x.row(0, 0, place - 1, 0), 3);
            }
        }
    }

    @Says(in = "Term 2", words = "then each BEAT sounds as WET says")
    static void term2_eachBeatSoundsAsWetSaysTheRestsOfTiredToo() {
        played(Check.with("wet rest tap;wet tap flam;wet flam roll;wet roll rest;", "gives 0 rest tap flam roll;"), 1, 2, 3, 0);
        played(Check.with("tired 1;wet rest roll;wet tap flam;", "gives 0 tap rest;"), 3, 3);
        played(Check.with("tired 2;wet rest tap;wet tap rest;", "gives 0 tap tap rest rest;"), 0, 1, 1, 1);
    }

    private static void echoAt(OneDrum x, int length, int at) {
        for (int k = 0; k < length; k++) {
            CHECK.due("an echo at " + k + " of " + length, x.row(0, 0, k, 3), k == at ? 1 : 0);
            CHECK.due("a TAP at " + k + " of " + length, x.row(0, 0, k, 2) == 1, k == at);
        }
    }

    @Says(in = "Term 2", words = "ECHO not being 0")
    static void term2_thereIsNoEchoByEcho0() {
        echoAt(Check.with("echo 0;", "gives 0 flam rest flam rest rest;"), 5, NONE);
        echoAt(Check.with("", "gives 0 flam rest flam rest rest;"), 5, NONE);
        OneDrum x = Check.with("order 0 left tap;", "gives 0 flam rest;");
        Check.text(x, 0, NONE, "echo 1;order 0 left tap;");
        CHECK.due("an echo in another WAR", x.row(1, 0, 1, 3), 1);
        CHECK.due("none in this one", x.row(0, 0, 1, 3), 0);
        CHECK.due("ECHOED in another WAR", x.made(1, 0, 0, NONE, 2), 1);
        CHECK.due("none in this one", x.made(0, 0, 0, NONE, 2), 0);
    }

    @Says(in = "Term 2", words = "at the place ECHO behind it, if there is one and a REST sounds there")
    static void term2_anEchoNeedsAPlaceBehindWhereARestSounds() {
        for (int echo = 1; echo <= 9; echo++) {
            for (int length = 1; length <= 12; length++) {
                OneDrum x = Check.with("echo " + echo + ";", "gives 0 flam" + Check.times(length - 1, "rest") + ";");
                echoAt(x, length, echo < length ? echo : NONE);
            }
        }
        String rests = Check.times(12, "rest");
        String withFlam = Check.times(7, "rest") + " flam" + Check.times(4, "rest");
        echoAt(Check.with("echo 9;", Check.gives(withFlam, rests)), 24, 23);
        echoAt(Check.with("echo 9;", Check.gives(rests, withFlam)), 24, NONE);
        echoAt(Check.with("echo 1;", "gives 0 flam roll rest;"), 3, NONE);
        echoAt(Check.with("echo 1;", "gives 0 flam flam rest;"), 3, 2);
        echoAt(Check.with("echo 2;wet rest roll;wet roll rest;", "gives 0 flam rest rest rest roll;"), 5, NONE);
        echoAt(Check.with("echo 2;wet rest roll;wet roll rest;", "gives 0 flam rest roll rest roll;"), 5, 2);
        echoAt(Check.with("echo 2;tired 3;", "gives 0 flam roll roll roll;"), 4, 2);
    }

    @Says(in = "Term 2", words = "then for each FLAM that sounds so")
    static void term2_anEchoComesOfWhatSoundsAsAFlam() {
        echoAt(Check.with("echo 1;wet flam roll;", "gives 0 flam rest;"), 2, NONE);
        echoAt(Check.with("echo 1;wet roll flam;", "gives 0 roll rest;"), 2, 1);
        echoAt(Check.with("echo 1;tired 2;", "gives 0 roll flam rest;"), 3, NONE);
        OneDrum each = Check.with("echo 1;", "gives 0 flam rest flam rest;");
        CHECK.due("the first one's", each.row(0, 0, 1, 3), 1);
        CHECK.due("the second one's", each.row(0, 0, 3, 3), 1);
        played(each, 2, 1, 2, 1);
    }

    @Says(in = "Term 2", words = "an echo is heard: a TAP")
    static void term2_anEchoIsATapThatIsHeard() {
        OneDrum x = Check.with("echo 2;step 1 2;order 0 left flam roll tap;order 1 right flam tap;", "gives 0 flam roll rest;");
        CHECK.due("a REST was given", x.row(0, 0, 2, 0), 0);
        CHECK.due("a TAP is PLAYED", x.row(0, 0, 2, 2), 1);
        CHECK.due("ARMY 0 hears it", x.heard(0, 0, 0, 2), 1);
        CHECK.due("ARMY 1 hears it", x.heard(0, 0, 1, 1), 1);
        made(x, 0, new int[] {0}, 0);
        made(x, 1, new int[] {0}, 0);
        played(Check.with("echo 2;wet tap roll;", "gives 0 flam roll rest;"), 2, 3, 1);
    }

    @Says(in = "Term 2", words = "(no echo comes of an echo)")
    static void term2_noEchoComesOfAnEcho() {
        played(Check.with("echo 1;", "gives 0 flam rest rest rest;"), 2, 1, 0, 0);
        played(Check.with("echo 1;wet tap flam;", "gives 0 flam rest rest rest;"), 2, 1, 0, 0);
        echoAt(Check.with("echo 1;wet tap flam;", "gives 0 flam rest rest rest;"), 4, 1);
    }

    // HEARD

    @Says(in = "Term 2", words = "An ARMY HEARS of what is PLAYED, places from 0 on, those at FROM, FROM and STEP, FROM and twice STEP, ..")
    static void term2_anArmyHearsFromOnByStepTillTheEnd() {
        for (int from = 0; from <= 3; from++) {
            for (int step = 1; step <= 4; step++) {
                for (int length = 0; length <= 24; length++) {
                    hears(length % 2, from, step, length);
                }
            }
        }
    }

    private static void hears(int army, int from, int step, int length) {
        String war = "turn 4;from " + army + " " + from + ";step " + army + " " + step + ";";
        int zero = Math.min(12, length);
        OneDrum x = Check.with(war, Check.gives(mixed(zero, 0), mixed(length - zero, 2)));
        int many = 0;
        for (int place = from; place < length; place += step) {
            CHECK.due(war + " hears " + many + " of " + length, x.heard(0, 0, army, many), x.row(0, 0, place, 2));
            many++;
        }
        CHECK.due(war + " hears of " + length, x.heard(0, 0, army, NONE), many);
        CHECK.due(war + " none behind", x.heard(0, 0, army, many), NONE);
        CHECK.due("the other one hears all", x.heard(0, 0, 1 - army, NONE), length);
    }

    // MADE

    private static void made(OneDrum x, int army, int[] orders, int danced) {
        CHECK.due("MOVES", x.made(0, 0, army, NONE, 0), orders.length);
        CHECK.due("DANCED", x.made(0, 0, army, NONE, 1), danced);
        for (int k = 0; k < orders.length; k++) {
            CHECK.due("ORDER of MOVE " + k, x.made(0, 0, army, k, 2), orders[k]);
        }
    }

    @Says(in = "Term 2", words = "of its ORDERS whose BEATS are those HEARD from there on the longest")
    static void term2_theLongestOrderIsMade() {
        String war = "order 0 left tap;order 0 right tap tap;order 0 charge tap tap tap;order 0 retreat tap tap tap tap;";
        for (int many = 1; many <= 12; many++) {
            int[] orders = new int[(many + 3) / 4];
            for (int k = 0; k < orders.length; k++) {
                orders[k] = Math.min(4, many - 4 * k) - 1;
            }
            made(Check.with(war, "gives 0" + Check.times(many, "tap") + ";"), 0, orders, 0);
        }
        String shortOne = "order 0 left tap;order 0 right tap tap tap flam;";
        made(Check.with(shortOne, "gives 0 tap tap tap flam;"), 0, new int[] {1}, 0);
        made(Check.with(shortOne, "gives 0 tap tap tap;"), 0, new int[] {0, 0, 0}, 0);
        made(Check.with(shortOne, "gives 0 tap tap tap roll;"), 0, new int[] {0, 0, 0}, 1);
        made(Check.with("order 0 left tap tap;", "gives 0 tap tap tap;"), 0, new int[] {0}, 1);
        made(Check.with("order 0 left tap tap;", "gives 0 tap;"), 0, new int[] {}, 1);
    }

    @Says(in = "Term 2", words = "the longest, of several the least: its MOVE, and on behind these BEATS")
    static void term2_ofSeveralLongestTheLeastIsMade() {
        String war = "order 0 left tap;order 0 right tap flam;order 0 charge tap flam;order 0 halt tap;"
            + "order 0 retreat tap flam;order 1 halt roll;order 1 left roll;";
        OneDrum x = Check.with(war, "gives 0 tap tap flam roll;");
        made(x, 0, new int[] {0, 1}, 1);
        made(x, 1, new int[] {0}, 3);
        CHECK.due("LEFT", x.made(0, 0, 0, 0, 0), 1);
        CHECK.due("RIGHT", x.made(0, 0, 0, 1, 0), 2);
    }

    @Says(in = "Term 2", words = "if there is none, on by one BEAT, which is DANCED to")
    static void term2_withoutAnOrderOneBeatIsDancedTo() {
        OneDrum none = Check.with("", Check.gives(Check.times(12, "tap"), Check.times(12, "tap")));
        made(none, 0, new int[] {}, 24);
        made(Check.with("", ""), 0, new int[] {}, 0);
        OneDrum x = Check.with("order 0 left tap flam;", "gives 0 tap tap flam tap;");
        made(x, 0, new int[] {0}, 2);
        CHECK.due("on by one", x.made(0, 0, 0, 0, 1), 1);
    }

    @Says(in = "Term 2", words = "A MOVE is PURE, if all its BEATS are at places that its own GIVER gave, FOREIGN, if none are, else MIXED")
    static void term2_pureIfAllForeignIfNoneElseMixed() {
        String taps = "gives 0 tap tap tap tap;gives 1 tap tap tap tap;";
        String four = "order 0 left tap tap tap tap;order 1 left tap tap tap tap;";
        for (int turn = 1; turn <= 4; turn++) {
            OneDrum x = Check.with("turn " + turn + ";" + four, taps);
            for (int army = 0; army < 2; army++) {
                for (int k = 0; k < 2; k++) {
                    int due = turn < 4 ? 1 : k == army ? 0 : 2;
                    CHECK.due("turn " + turn + ", army " + army + ", MOVE " + k, x.made(0, 0, army, k, 3), due);
                }
            }
        }
        OneDrum one = Check.with("order 0 left tap;order 1 left tap;", "gives 0 tap;gives 1 tap;");
        int[][] due = {{0, 2}, {2, 0}};
        for (int army = 0; army < 2; army++) {
            CHECK.due("place 0", one.made(0, 0, army, 0, 3), due[army][0]);
            CHECK.due("place 1", one.made(0, 0, army, 1, 3), due[army][1]);
        }
        OneDrum byStep = Check.with("step 0 2;step 1 2;" + four, taps);
        CHECK.due("by steps all of his own", byStep.made(0, 0, 0, 0, 3), 0);
        CHECK.due("by steps none of his own", byStep.made(0, 0, 1, 0, 3), 2);
    }

    @Says(in = "Term 2", words = "It MADE of this: from the first one on")
    static void term2_nothingIsMadeOfNothingHeard() {
        OneDrum x = Check.with("tired 1;echo 1;order 0 left rest;order 1 left rest;", "");
        for (int army = 0; army < 2; army++) {
            CHECK.due("heard", x.heard(0, 0, army, NONE), 0);
            made(x, army, new int[] {}, 0);
        }
        OneDrum late = Check.with("from 0 3;order 0 left tap;order 1 right tap;", "gives 0 tap tap tap;");
        made(late, 0, new int[] {}, 0);
        made(late, 1, new int[] {0, 0, 0}, 0);
    }

    // MARCH

    /** Each army does what its own giver gives, beat by beat, by these moves of rest, tap, flam and roll. */
    private static String codes(String rest, String tap, String flam, String roll) {
        StringBuilder out = new StringBuilder("from 1 1;step 0 2;step 1 2;");
        String[] moves = {rest, tap, flam, roll};
        for (int army = 0; army < 2; army++) {
            for (int beat = 0; beat < 4; beat++) {
                out.append("order ").append(army).append(' ').append(moves[beat]).append(' ').append(BEATS[beat]).append(';');
            }
        }
        return out.toString();
    }

    private static void walk(OneDrum x, int army, int... due) {
        for (int t = 0; t <= 24; t++) {
            CHECK.due("army " + army + " behind step " + t, x.march(0, 0, army, t), due[Math.min(t, due.length - 1)]);
        }
    }

    @Says(in = "Term 2", words = "MARCH: at each step, from 1 on, both do a MOVE: ARMY a at step t the one numbered t less 1 less LAG")
    static void term2_atStepTTheMoveNumberedTLess1LessLag() {
        for (int lag = 0; lag <= 3; lag++) {
            String war = "lag 0 " + lag + ";lag 1 " + (3 - lag) + ";order 0 right tap;order 1 left tap;";
            OneDrum x = Check.with(war, Check.gives(Check.times(12, "tap"), Check.times(12, "tap")));
            for (int t = 0; t <= 24; t++) {
                CHECK.due("lag " + lag + " at " + t, x.march(0, 0, 0, t), Math.max(0, t - lag));
                CHECK.due("lag " + (3 - lag) + " at " + t, x.march(0, 0, 1, t), 10 - Math.max(0, t - 3 + lag));
            }
        }
        OneDrum first = Check.with("lag 1 3;order 0 left tap;order 0 charge flam;order 1 right flam;", "gives 0 tap flam;");
        walk(first, 0, 0, -1, 1);
        walk(first, 1, 10, 10, 10, 10, 11);
    }

    @Says(in = "Term 2", words = "HALT, if there is none")
    static void term2_withoutAMoveTheyHalt() {
        walk(Check.with("", ""), 0, 0);
        walk(Check.with("", ""), 1, 10);
        OneDrum x = Check.with("order 0 right tap;order 0 halt flam;", "gives 0 tap flam tap;");
        walk(x, 0, 0, 1, 1, 2);
        walk(x, 1, 10);
    }

    @Says(in = "Term 2", words = "LEFT is 1 less, RIGHT 1 more")
    static void term2_leftAndRightGoBeyond0And20() {
        String all = Check.gives(Check.times(12, "tap"), Check.times(12, "tap"));
        OneDrum x = Check.with("place 0 0;place 1 20;order 0 left tap;order 1 right tap;", all);
        OneDrum y = Check.with("place 0 20;place 1 0;order 0 right tap;order 1 left tap;", all);
        for (int t = 0; t <= 24; t++) {
            CHECK.due("left from 0", x.march(0, 0, 0, t), -t);
            CHECK.due("right from 20", x.march(0, 0, 1, t), 20 + t);
            CHECK.due("right from 20", y.march(0, 0, 0, t), 20 + t);
            CHECK.due("left from 0", y.march(0, 0, 1, t), -t);
        }
    }

    @Says(in = "Term 2", words = "CHARGE 2 towards the other one's place ahead of the step (if that is its own, it stays)")
    static void term2_chargeGoesTwoTowardsTheOtherOneOrStays() {
        String war = codes("halt", "left", "right", "charge");
        OneDrum both = Check.with(war + "place 0 0;place 1 3;", "gives 0 roll roll;gives 1 roll roll;");
        walk(both, 0, 0, 2, 0);
        walk(both, 1, 3, 1, 3);
        OneDrum near = Check.with(war + "place 0 5;place 1 4;", "gives 0 roll;gives 1 rest;");
        walk(near, 0, 5, 3);
        OneDrum same = Check.with(war + "place 0 4;place 1 4;", "gives 0 roll roll;gives 1 flam roll;");
        walk(same, 0, 4, 4, 6);
        walk(same, 1, 4, 5, 3);
        OneDrum bothStay = Check.with(war + "place 0 0;place 1 0;", "gives 0 roll;gives 1 roll;");
        walk(bothStay, 0, 0);
        walk(bothStay, 1, 0);
    }

    @Says(in = "Term 2", words = "RETREAT 2 away from it (if that is its own: ARMY 0 less, ARMY 1 more)")
    static void term2_retreatGoesTwoAwayFromTheOtherOne() {
        String war = codes("halt", "left", "right", "retreat");
        OneDrum apart = Check.with(war + "place 0 0;place 1 1;", "gives 0 roll;gives 1 roll;");
        walk(apart, 0, 0, -2);
        walk(apart, 1, 1, 3);
        OneDrum turned = Check.with(war + "place 0 1;place 1 0;", "gives 0 roll;gives 1 roll;");
        walk(turned, 0, 1, 3);
        walk(turned, 1, 0, -2);
        OneDrum same = Check.with(war + "place 0 7;place 1 7;", "gives 0 roll;gives 1 roll;");
        walk(same, 0, 7, 5);
        walk(same, 1, 7, 9);
        OneDrum ahead = Check.with(war + "place 0 7;place 1 7;", "gives 0 roll;gives 1 tap;");
        walk(ahead, 0, 7, 5);
        walk(ahead, 1, 7, 6);
    }

    // MEET

    private static void meet(String war, String score, int due) {
        CHECK.due(war + score + " meets", Check.with(war, score).meets(0, 0), due);
    }

    @Says(in = "Term 2", words = "They MEET at the first step, 0 .. 24")
    static void term2_theyMeetAtAStepFrom0To24() {
        meet("place 0 10;", "", 0);
        meet("place 1 0;order 0 left tap;", "gives 0 tap;", 0);
        String twenty = "turn 4;place 1 20;order 0 halt flam;order 0 right tap;";
        String last = Check.gives(Check.times(4, "flam") + Check.times(8, "tap"), Check.times(12, "tap"));
        meet(twenty, last, 24);
        meet("lag 0 1;" + twenty, last, NONE);
        CHECK.due("one short of it", Check.with("lag 0 1;" + twenty, last).march(0, 0, 0, 24), 19);
        String crossing = "place 1 1;order 0 halt flam;order 0 charge tap;";
        String atLast = Check.gives(Check.times(12, "flam"), Check.times(11, "flam") + " tap");
        meet(crossing, atLast, 24);
        meet("place 1 1;order 0 charge tap;", atLast, 1);
        meet("lag 0 1;" + crossing, atLast, NONE);
        meet("place 1 2;order 0 charge tap;order 0 left flam;", "gives 0 tap flam tap;", 1);
    }

    @Says(in = "Term 2", words = "at which they are at one place, or on other sides of each other than ahead of it")
    static void term2_theyMeetAtOnePlaceOrOnOtherSides() {
        String war = codes("halt", "left", "right", "charge");
        meet(war + "place 0 0;place 1 1;", "gives 0 flam;gives 1 rest;", 1);
        meet(war + "place 0 0;place 1 1;", "gives 0 flam;gives 1 tap;", 1);
        meet(war + "place 0 0;place 1 2;", "gives 0 flam;gives 1 tap;", 1);
        meet(war + "place 0 0;place 1 3;", "gives 0 flam;gives 1 tap;", NONE);
        meet(war + "place 0 1;place 1 0;", "gives 0 tap;gives 1 flam;", 1);
        meet(war + "place 0 3;place 1 2;", "gives 0 roll;gives 1 rest;", 1);
        meet(war + "place 0 0;place 1 1;", "gives 0 flam;gives 1 flam;", NONE);
        meet(war + "place 0 0;place 1 20;", "gives 0 tap;gives 1 flam;", NONE);
    }
}
