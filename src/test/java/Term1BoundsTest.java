/** Term 1: the bounds of what is told, of its texts and of their FAULTS, a test for each sentence. */
public final class Term1BoundsTest {
    private static final int NONE = OneDrum.NONE;
    private static final Check CHECK = new Check();
    private static final int WAR = 0;
    private static final int SCORE = 1;
    private static final int HEARING = 2;
    private static final int VILLAGES = 3;
    private static final String[] BEATS = {"rest", "tap", "flam", "roll"};
    private static final String[] MOVES = {"halt", "left", "right", "charge", "retreat"};

    public static void main(String[] args) {
        Sentences.run(Term1BoundsTest.class, CHECK);
    }

    // numbers

    /** A WAR's line with each NUMBER in it: least .. most are kept, each other one is FAULT 2 at its place. */
    private static void numbersOfWar(String ahead, int least, int most, int what) {
        for (int n = 0; n < 100; n++) {
            numberOfWar(ahead, Integer.toString(n), n >= least && n <= most, what);
            if (n < 10) {
                numberOfWar(ahead, "0" + n, n >= least && n <= most, what);
            }
        }
    }

    private static void numberOfWar(String ahead, String number, boolean canBe, int what) {
        String text = ahead + number + ";";
        if (canBe) {
            CHECK.due(text + " kept", CHECK.fine(WAR, text).war(0, what), Integer.parseInt(number));
        } else {
            CHECK.faulty(WAR, text, 2, ahead.length());
        }
    }

    /** The same for each ARMY; the other one's stays as it is at first. */
    private static void numbersOfArmies(String word, int least, int most, int what) {
        for (int army = 0; army < 2; army++) {
            numbersOfWar(word + " " + army + " ", least, most, what + army);
            int first = Check.with("", "").war(0, what + 1 - army);
            OneDrum x = Check.with(word + " " + army + " " + most + ";", "");
            CHECK.due(word + " of the other one", x.war(0, what + 1 - army), first);
        }
    }

    private static final String ALL_SET = "turn 4;tired 9;echo 9;wet rest roll;wet tap rest;wet flam tap;wet roll flam;from 0 3;"
        + "from 1 3;step 0 4;step 1 4;lag 0 3;lag 1 3;place 0 20;place 1 20;";

    /** At first: of a first WAR, and of one that is told behind or in place of one that has all else, or a FAULT. */
    private static void atFirst(int what, int due) {
        OneDrum x = CHECK.fine(WAR, "");
        CHECK.due("war(0, " + what + ") at first", x.war(0, what), due);
        Check.text(x, WAR, 0, ALL_SET);
        Check.text(x, WAR, NONE, "");
        CHECK.due("war(1, " + what + ") behind another", x.war(1, what), due);
        Check.text(x, WAR, 0, ALL_SET + "x");
        Check.text(x, WAR, 0, "");
        CHECK.due("war(0, " + what + ") in place of another", x.war(0, what), due);
    }

    @Says(in = "Term 1", words = "A WAR has TURN, 1 .. 4")
    static void term1_turnIsFrom1To4() {
        numbersOfWar("turn ", 1, 4, 0);
    }

    @Says(in = "Term 1", words = "TURN, 1 .. 4 (1 at first)")
    static void term1_turnIs1AtFirst() {
        atFirst(0, 1);
    }

    @Says(in = "Term 1", words = "TIRED, 0 .. 9")
    static void term1_tiredIsFrom0To9() {
        numbersOfWar("tired ", 0, 9, 1);
    }

    @Says(in = "Term 1", words = "TIRED, 0 .. 9 (0)")
    static void term1_tiredIs0AtFirst() {
        atFirst(1, 0);
    }

    @Says(in = "Term 1", words = "ECHO, 0 .. 9")
    static void term1_echoIsFrom0To9() {
        numbersOfWar("echo ", 0, 9, 2);
    }

    @Says(in = "Term 1", words = "ECHO, 0 .. 9 (0)")
    static void term1_echoIs0AtFirst() {
        atFirst(2, 0);
    }

    @Says(in = "Term 1", words = "WET: for each BEAT, as which one it sounds")
    static void term1_wetIsOfEachBeatAsEachOne() {
        for (int which = 0; which < 4; which++) {
            for (int as = 0; as < 4; as++) {
                OneDrum x = CHECK.fine(WAR, "wet " + BEATS[which] + " " + BEATS[as] + ";");
                for (int beat = 0; beat < 4; beat++) {
                    CHECK.due("wet of " + beat, x.war(0, 10 + beat), beat == which ? as : beat);
                }
            }
        }
    }

    @Says(in = "Term 1", words = "as which one it sounds (as itself)")
    static void term1_eachBeatSoundsAsItselfAtFirst() {
        for (int beat = 0; beat < 4; beat++) {
            atFirst(10 + beat, beat);
        }
    }

    @Says(in = "Term 1", words = {"of each ARMY", "FROM, 0 .. 3 (0)"})
    static void term1_fromIsFrom0To3And0AtFirst() {
        atFirst(20, 0);
        atFirst(21, 0);
        numbersOfArmies("from", 0, 3, 20);
    }

    @Says(in = "Term 1", words = {"of each ARMY", "STEP, 1 .. 4 (1)"})
    static void term1_stepIsFrom1To4And1AtFirst() {
        atFirst(30, 1);
        atFirst(31, 1);
        numbersOfArmies("step", 1, 4, 30);
    }

    @Says(in = "Term 1", words = {"of each ARMY", "LAG, 0 .. 3 (0)"})
    static void term1_lagIsFrom0To3And0AtFirst() {
        atFirst(40, 0);
        atFirst(41, 0);
        numbersOfArmies("lag", 0, 3, 40);
    }

    @Says(in = "Term 1", words = {"of each ARMY", "PLACE, 0 .. 20 (0; ARMY 1: 10)"})
    static void term1_placeIsFrom0To20And0Or10AtFirst() {
        atFirst(50, 0);
        atFirst(51, 10);
        numbersOfArmies("place", 0, 20, 50);
    }

    @Says(in = "Term 1", words = "ARMIES are 0 and 1; GIVERS are 0 and 1")
    static void term1_noArmyAndNoGiverButTwo() {
        String[] ahead = {"from ", "step ", "lag ", "place ", "order ", "gives ", "made "};
        String[] behind = {" 1;", " 1;", " 1;", " 1;", " left tap;", " tap;", ";"};
        int[] sorts = {WAR, WAR, WAR, WAR, WAR, SCORE, HEARING};
        for (int i = 0; i < ahead.length; i++) {
            for (int n = 0; n < 100; n++) {
                if (n < 2) {
                    CHECK.fine(sorts[i], ahead[i] + n + behind[i]);
                    CHECK.fine(sorts[i], ahead[i] + "0" + n + behind[i]);
                } else {
                    CHECK.faulty(sorts[i], ahead[i] + n + behind[i], 2, ahead[i].length());
                }
            }
        }
    }

    @Says(in = "Term 1", words = "GIVERS are 0 and 1, each an ARMY's")
    static void term1_eachGiverIsTheArmysOfHisNumber() {
        for (int giver = 0; giver < 2; giver++) {
            OneDrum x = Check.with("order 0 left tap;order 1 left tap;", "gives " + giver + " tap;");
            CHECK.due("given by " + giver, x.row(0, 0, 0, 1), giver);
            CHECK.due("PURE for his own ARMY", x.made(0, 0, giver, 0, 3), 0);
            CHECK.due("FOREIGN for the other one", x.made(0, 0, 1 - giver, 0, 3), 2);
            // what GIVER 1 gives first stands at place 1, which alone is heard
            OneDrum y = Check.with("from 0 " + giver + ";from 1 " + giver + ";step 0 2;step 1 2;"
                + "order 0 left tap;order 1 left tap;", "");
            CHECK.due("forced by the ARMY whose GIVER he is", y.force(0, giver, 1, 1, false), 1);
            CHECK.due("not by the other one", y.force(0, 1 - giver, 1, 1, false), NONE);
        }
    }

    // how many

    private static String orders(int many, int army) {
        StringBuilder out = new StringBuilder();
        for (int k = 0; k < many; k++) {
            out.append("order ").append(army).append(' ').append(MOVES[k % 5]).append(" tap;");
        }
        return out.toString();
    }

    @Says(in = "Term 1", words = "ORDERS, at most 6 of each, from 0 on")
    static void term1_sixOrdersOfEachArmyAreTheMost() {
        OneDrum none = CHECK.fine(WAR, "");
        CHECK.due("none", none.war(0, 60), 0);
        CHECK.due("none", none.order(0, 0, 0, 0), NONE);
        OneDrum x = CHECK.fine(WAR, orders(6, 1) + orders(6, 0));
        for (int army = 0; army < 2; army++) {
            CHECK.due("six", x.war(0, 60 + army), 6);
            for (int k = 0; k < 6; k++) {
                CHECK.due("order " + k, x.order(0, army, k, 0), k % 5);
            }
            CHECK.due("no order 6", x.order(0, army, 6, 0), NONE);
            CHECK.faulty(WAR, orders(7, army), 3, orders(6, army).length());
        }
    }

    @Says(in = "Term 1", words = "a MOVE, 1 to 4 BEATS")
    static void term1_anOrderHasOneToFourBeats() {
        CHECK.faulty(WAR, "order 0 left;", 1, 12);
        for (int many = 1; many <= 4; many++) {
            OneDrum x = CHECK.fine(WAR, "order 0 left" + Check.times(many, "roll") + ";");
            CHECK.due("beats", x.order(0, 0, 0, 1), many);
            CHECK.due("the last", x.order(0, 0, 0, 9 + many), 3);
            CHECK.due("none behind it", x.order(0, 0, 0, 10 + many), NONE);
        }
        CHECK.faulty(WAR, "order 0 left" + Check.times(5, "roll") + ";", 3, 33);
    }

    @Says(in = "Term 1", words = "A SCORE has of each GIVER at most 12 BEATS, from 0 on")
    static void term1_twelveBeatsOfEachGiverAreTheMost() {
        CHECK.due("none", CHECK.fine(SCORE, "").given(0, 0, NONE), 0);
        OneDrum x = CHECK.fine(SCORE, Check.gives("tap" + Check.times(11, "roll"), Check.times(11, "flam") + " tap"));
        CHECK.due("twelve", x.given(0, 0, NONE), 12);
        CHECK.due("twelve", x.given(0, 1, NONE), 12);
        CHECK.due("BEAT 0", x.given(0, 0, 0), 1);
        CHECK.due("BEAT 11", x.given(0, 0, 11), 3);
        CHECK.due("BEAT 0", x.given(0, 1, 0), 2);
        CHECK.due("BEAT 11", x.given(0, 1, 11), 1);
        CHECK.due("no BEAT 12", x.given(0, 0, 12), NONE);
        for (int giver = 0; giver < 2; giver++) {
            CHECK.faulty(SCORE, "gives " + giver + Check.times(13, "tap") + ";", 3, 56);
        }
    }

    @Says(in = "Term 1", words = "A HEARING has of each ARMY MOVES, at most 6, from 0 on")
    static void term1_sixMovesToldOfEachArmyAreTheMost() {
        OneDrum x = CHECK.fine(HEARING, "made 0 left" + Check.times(5, "halt") + ";made 1" + Check.times(5, "right") + " charge;");
        CHECK.due("six", x.told(0, 0, NONE), 6);
        CHECK.due("six", x.told(0, 1, NONE), 6);
        CHECK.due("MOVE 0", x.told(0, 0, 0), 1);
        CHECK.due("MOVE 5", x.told(0, 0, 5), 0);
        CHECK.due("MOVE 0", x.told(0, 1, 0), 2);
        CHECK.due("MOVE 5", x.told(0, 1, 5), 3);
        CHECK.due("no MOVE 6", x.told(0, 1, 6), -2);
        CHECK.faulty(HEARING, "made 0" + Check.times(7, "halt") + ";", 3, 37);
        CHECK.faulty(HEARING, "made 1" + Check.times(7, "halt") + ";", 3, 37);
    }

    @Says(in = "Term 1", words = "or nothing is told of it")
    static void term1_nothingToldIsNotNoMovesTold() {
        OneDrum nothing = CHECK.fine(HEARING, "");
        CHECK.due("nothing", nothing.told(0, 0, NONE), NONE);
        CHECK.due("nothing", nothing.told(0, 1, NONE), NONE);
        OneDrum none = CHECK.fine(HEARING, "made 1;");
        CHECK.due("nothing", none.told(0, 0, NONE), NONE);
        CHECK.due("none", none.told(0, 1, NONE), 0);
    }

    @Says(in = "Term 1", words = "VILLAGES, at most 8, from 0 on")
    static void term1_eightVillagesAreTheMost() {
        CHECK.due("none", CHECK.fine(VILLAGES, "").village(0, NONE, 0), 0);
        OneDrum x = CHECK.fine(VILLAGES, "drop 8 1;drop 8 2;drop 8 3;drop 8 4;drop 8 5;drop 8 6;drop 8 7;drop 8 8;");
        CHECK.due("eight", x.village(0, NONE, 0), 8);
        for (int k = 0; k < 8; k++) {
            CHECK.due("VILLAGE " + k, x.village(0, k, 2), k + 1);
        }
        CHECK.due("no VILLAGE 8", x.village(0, 8, 2), -2);
        CHECK.faulty(VILLAGES, "last 8;".repeat(9), 3, 56);
    }

    @Says(in = "Term 1", words = "a PARENT, a lesser one, or the drum")
    static void term1_aParentIsALesserOneOrTheDrum() {
        for (int own = 0; own < 8; own++) {
            String ahead = "last 8;".repeat(own);
            for (int parent = 0; parent < 100; parent++) {
                String text = ahead + "last " + parent + ";";
                if (parent < own || parent == 8) {
                    CHECK.due(text, CHECK.fine(VILLAGES, text).village(0, own, 0), parent);
                } else {
                    CHECK.faulty(VILLAGES, text, 2, ahead.length() + 5);
                }
            }
        }
    }

    @Says(in = "Term 1", words = "a CHANGE: 0 DROP n, 1 .. 9")
    static void term1_dropIsOfFrom1To9() {
        for (int n = 0; n < 100; n++) {
            String text = "drop 8 " + n + ";";
            if (n >= 1 && n <= 9) {
                OneDrum x = CHECK.fine(VILLAGES, text);
                CHECK.due(text + " its CHANGE", x.village(0, 0, 1), 0);
                CHECK.due(text + " its n", x.village(0, 0, 2), n);
            } else {
                CHECK.faulty(VILLAGES, text, 2, 7);
            }
        }
        CHECK.due("two digits", CHECK.fine(VILLAGES, "drop 08 09;").village(0, 0, 2), 9);
        CHECK.faulty(VILLAGES, "drop 8 00;", 2, 7);
    }

    @Says(in = "Term 1", words = "1 SWAP of two BEATS")
    static void term1_swapIsOfTwoBeatsThatAreUnlike() {
        for (int one = 0; one < 4; one++) {
            for (int other = 0; other < 4; other++) {
                String text = "swap 8 " + BEATS[one] + " " + BEATS[other] + ";";
                if (one == other) {
                    CHECK.faulty(VILLAGES, text, 4, 8 + BEATS[one].length());
                } else {
                    OneDrum x = CHECK.fine(VILLAGES, text);
                    CHECK.due(text + " its CHANGE", x.village(0, 0, 1), 1);
                    CHECK.due(text + " one", x.village(0, 0, 2), one);
                    CHECK.due(text + " the other", x.village(0, 0, 3), other);
                }
            }
        }
    }

    @Says(in = "Term 1", words = "2 TWICE of a BEAT")
    static void term1_twiceIsOfOneBeat() {
        for (int beat = 0; beat < 4; beat++) {
            OneDrum x = CHECK.fine(VILLAGES, "twice 8 " + BEATS[beat] + ";");
            CHECK.due("its CHANGE", x.village(0, 0, 1), 2);
            CHECK.due("its BEAT", x.village(0, 0, 2), beat);
        }
        CHECK.faulty(VILLAGES, "twice 8;", 1, 7);
        CHECK.faulty(VILLAGES, "twice 8 tap tap;", 1, 12);
    }

    @Says(in = "Term 1", words = "3 LAST")
    static void term1_lastIsOfNothing() {
        CHECK.due("its CHANGE", CHECK.fine(VILLAGES, "last 8;").village(0, 0, 1), 3);
        CHECK.faulty(VILLAGES, "last 8 1;", 1, 7);
        CHECK.faulty(VILLAGES, "last 8 tap;", 1, 7);
    }

    @Says(in = "Term 1", words = "THE TAPE has at most 600 bytes")
    static void term1_aTextOf600BytesIsReadToItsLast() {
        String full = " ".repeat(593) + "turn 3;";
        CHECK.due("turn", CHECK.fine(WAR, full).war(0, 0), 3);
        CHECK.faulty(WAR, " ".repeat(594) + "turn 3", 1, 600);
        CHECK.faulty(WAR, full.substring(1) + ";", 1, 599);
        CHECK.faulty(WAR, ";".repeat(600), 1, 0);
        OneDrum x = new OneDrum();
        for (int n = 20; n <= 600; n += 20) {
            CHECK.due("feed", x.feed(0, 0, 0, 0, 0), n);
        }
        CHECK.due("feed to 600", x.feed(0, 0, 0, 0, 0), NONE);
    }

    // tokens

    @Says(in = "Term 1", words = "TOKENS, as long as they go")
    static void term1_tokensGoAsLongAsTheyGo() {
        CHECK.due("turn2", CHECK.fine(WAR, "turn2;").war(0, 0), 2);
        CHECK.due("all in one", CHECK.fine(WAR, "from0 3;order1left tap;tired9;echo1;").war(0, 61), 1);
        CHECK.faulty(WAR, "turnturn 2;", 1, 0);
        CHECK.faulty(WAR, "order 0 left taptap;", 1, 13);
        CHECK.faulty(WAR, "order 0 lefttap;", 1, 8);
        CHECK.faulty(WAR, "from 03;", 1, 7);
        CHECK.faulty(WAR, "from 13;", 1, 7);
        CHECK.faulty(WAR, "place 119;", 1, 6);
        CHECK.faulty(WAR, "turn 11;", 2, 5);
    }

    @Says(in = "Term 1", words = "blanks (10, 32) between")
    static void term1_noOtherByteIsABlank() {
        for (int b = 0; b < 256; b++) {
            char sign = (char) b;
            blankAheadOfNumber(sign);
            blankBehindNumber(sign);
        }
        CHECK.due("many", CHECK.fine(WAR, "\n  turn \n\n 4 \n ; \n ").war(0, 0), 4);
        CHECK.fine(WAR, " ");
        CHECK.fine(WAR, "\n");
        CHECK.fine(WAR, " ".repeat(600));
    }

    private static boolean isBlank(char sign) {
        return sign == 10 || sign == 32;
    }

    private static boolean isDigit(char sign) {
        return sign >= '0' && sign <= '9';
    }

    private static boolean isLetter(char sign) {
        return sign >= 'a' && sign <= 'z';
    }

    private static void blankAheadOfNumber(char sign) {
        String text = "turn" + sign + "2;";
        if (isBlank(sign) || sign == '0') {
            CHECK.due("turn of " + text, CHECK.fine(WAR, text).war(0, 0), 2);
        } else if (isDigit(sign)) {
            CHECK.faulty(WAR, text, 2, 4);
        } else {
            CHECK.faulty(WAR, text, 1, isLetter(sign) ? 0 : 4);
        }
    }

    private static void blankBehindNumber(char sign) {
        String text = "turn 2" + sign + ";";
        if (isBlank(sign)) {
            CHECK.due("turn of " + text, CHECK.fine(WAR, text).war(0, 0), 2);
        } else if (isDigit(sign)) {
            CHECK.faulty(WAR, text, 2, 5);
        } else {
            CHECK.faulty(WAR, text, 1, sign == ';' ? 7 : 6);
        }
    }

    @Says(in = "Term 1", words = "words, rows of letters a .. z")
    static void term1_wordsAreOfSmallLetters() {
        CHECK.faulty(WAR, "Turn 2;", 1, 0);
        CHECK.faulty(WAR, "turN 2;", 1, 0);
        CHECK.faulty(WAR, "tur`n 2;", 1, 0);
        CHECK.faulty(WAR, "turn{2;", 1, 4);
        CHECK.faulty(WAR, "turn`2;", 1, 4);
        CHECK.faulty(WAR, "tur n 2;", 1, 0);
        CHECK.faulty(WAR, "tu", 1, 0);
        CHECK.faulty(WAR, "turnz 2;", 1, 0);
        CHECK.faulty(WAR, "aturn 2;", 1, 0);
    }

    @Says(in = "Term 1", words = "NUMBERS, 1 or 2 digits")
    static void term1_aNumberHasOneOrTwoDigits() {
        CHECK.faulty(WAR, "turn ;", 1, 5);
        CHECK.due("one", CHECK.fine(WAR, "turn 2;").war(0, 0), 2);
        CHECK.due("two", CHECK.fine(WAR, "turn 02;").war(0, 0), 2);
        CHECK.faulty(WAR, "turn 002;", 1, 5);
        CHECK.faulty(WAR, "turn 0 2;", 1, 7);
        CHECK.faulty(WAR, "turn -2;", 1, 5);
        CHECK.faulty(WAR, "turn +2;", 1, 5);
        CHECK.faulty(WAR, "turn 2.;", 1, 6);
    }

    @Says(in = "Term 1", words = "; ; one byte")
    static void term1_aSemicolonIsOneByte() {
        CHECK.due("two lines", CHECK.fine(WAR, "turn 2;tired 3;").war(0, 1), 3);
        CHECK.faulty(WAR, ";", 1, 0);
        CHECK.faulty(WAR, "turn 2;;", 1, 7);
        CHECK.faulty(WAR, "turn 2;;tired 3;", 1, 7);
        CHECK.faulty(WAR, "turn 2:", 1, 6);
    }

    // the sorts of text

    private static final String[] INTRUDERS = {"2", "rest", "roll", "halt", "retreat", ";", "x", "rests", "123", "#", "Tap",
        "turn", "order", "gives", "made", "drop", "last"};
    private static final String INTRUDER_KINDS = "NBBMMS-----WWWWWW";

    /**
     * A line that is fine, its tokens by kinds: W the line's word, N a NUMBER, B a BEAT, M a MOVE, S the semicolon
     * or what it may stand for too, more. A line that breaks off is FAULT 1 at its end, one with a token of another
     * kind FAULT 1 there.
     */
    private static void form(int sort, String line, String kinds, char more) {
        String[] tokens = line.split(" ");
        CHECK.fine(sort, line);
        CHECK.fine(sort, line + line);
        String ahead = "";
        for (int i = 0; i < tokens.length; i++) {
            if (i > 0) {
                CHECK.faulty(sort, ahead, 1, ahead.length());
                CHECK.faulty(sort, ahead.strip(), 1, ahead.length() - 1);
            }
            for (int k = 0; k < INTRUDERS.length; k++) {
                boolean beginsLine = i == 0 && isLineWord(sort, INTRUDERS[k]);
                char kind = INTRUDER_KINDS.charAt(k);
                boolean fits = i > 0 && (kind == kinds.charAt(i) || kinds.charAt(i) == 'S' && kind == more);
                if (!beginsLine && !fits) {
                    CHECK.faulty(sort, ahead + INTRUDERS[k] + " ;", 1, ahead.length());
                }
            }
            for (int number = 0; number < 100 && kinds.charAt(i) != 'N'; number++) {
                CHECK.faulty(sort, ahead + number + " ;", 1, ahead.length());
            }
            ahead += tokens[i] + " ";
        }
        CHECK.faulty(sort, ahead + ahead.strip().substring(0, ahead.length() - 2), 1, 2 * ahead.length() - 2);
    }

    private static boolean isLineWord(int sort, String word) {
        String[] all = {"turn order", "gives", "made", "drop last"};
        return (" " + all[sort] + " ").contains(" " + word + " ");
    }

    @Says(in = "Term 1", words = "A WAR's text: {('turn' | 'tired' | 'echo') NUMBER | 'wet' BEAT BEAT")
    static void term1_aWarsLinesOfTheDrumAreOfTheirForm() {
        CHECK.fine(WAR, "");
        form(WAR, "turn 2 ;", "WNS", ' ');
        form(WAR, "tired 2 ;", "WNS", ' ');
        form(WAR, "echo 2 ;", "WNS", ' ');
        form(WAR, "wet tap flam ;", "WBBS", ' ');
    }

    @Says(in = "Term 1", words = "('from' | 'step' | 'lag' | 'place') NUMBER NUMBER | 'order' NUMBER MOVE BEAT {BEAT}) ';'}")
    static void term1_aWarsLinesOfAnArmyAreOfTheirForm() {
        form(WAR, "from 0 2 ;", "WNNS", ' ');
        form(WAR, "step 0 2 ;", "WNNS", ' ');
        form(WAR, "lag 0 2 ;", "WNNS", ' ');
        form(WAR, "place 0 2 ;", "WNNS", ' ');
        form(WAR, "order 0 halt tap ;", "WNMBS", 'B');
        form(WAR, "order 0 halt tap flam roll rest ;", "WNMBSSSS", 'B');
    }

    @Says(in = "Term 1", words = "(wet: which, as which; from and so on: an ARMY, 0 or 1, how much; order: an ARMY)")
    static void term1_whatTheNumbersAndBeatsOfAWarsLinesAre() {
        OneDrum x = CHECK.fine(WAR, "wet roll tap;from 1 3;step 1 4;lag 1 2;place 1 0;order 1 charge roll;");
        int[][] due = {{10, 0}, {11, 1}, {12, 2}, {13, 1}, {20, 0}, {21, 3}, {30, 1}, {31, 4}, {40, 0}, {41, 2},
            {50, 0}, {51, 0}, {60, 0}, {61, 1}};
        for (int[] pair : due) {
            CHECK.due("war(0, " + pair[0] + ")", x.war(0, pair[0]), pair[1]);
        }
    }

    private static void knownWords(String[] words, String ahead, String behind) {
        for (String word : words) {
            CHECK.fine(WAR, ahead + word + behind);
            CHECK.faulty(WAR, ahead + word.substring(1) + behind, 1, ahead.length());
            CHECK.faulty(WAR, ahead + word.substring(0, word.length() - 1) + behind, 1, ahead.length());
            CHECK.faulty(WAR, ahead + word + "s" + behind, 1, ahead.length());
            CHECK.faulty(WAR, ahead + word + word + behind, 1, ahead.length());
        }
    }

    @Says(in = "Term 1", words = {"BEATS are 0 REST, 1 TAP, 2 FLAM, 3 ROLL", "BEAT: 'rest' | 'tap' | 'flam' | 'roll'"})
    static void term1_noOtherWordIsABeat() {
        knownWords(BEATS, "order 0 halt ", ";");
        for (int beat = 0; beat < 4; beat++) {
            OneDrum x = CHECK.fine(WAR, "order 0 halt " + BEATS[beat] + ";");
            CHECK.due(BEATS[beat], x.order(0, 0, 0, 10), beat);
        }
    }

    @Says(in = "Term 1", words = {"MOVES are 0 HALT, 1 LEFT, 2 RIGHT, 3 CHARGE, 4 RETREAT",
        "MOVE: 'halt' | 'left' | 'right' | 'charge' | 'retreat'"})
    static void term1_noOtherWordIsAMove() {
        knownWords(MOVES, "order 0 ", " tap;");
        for (int move = 0; move < 5; move++) {
            OneDrum x = CHECK.fine(WAR, "order 0 " + MOVES[move] + " tap;");
            CHECK.due(MOVES[move], x.order(0, 0, 0, 0), move);
        }
    }

    @Says(in = "Term 1", words = "A SCORE's text: {'gives' NUMBER BEAT {BEAT} ';'}")
    static void term1_aScoresLinesAreOfTheirForm() {
        CHECK.fine(SCORE, "");
        form(SCORE, "gives 0 tap ;", "WNBS", 'B');
        form(SCORE, "gives 1 tap flam ;", "WNBSS", 'B');
    }

    @Says(in = "Term 1", words = "(a GIVER; behind what he gave so far)")
    static void term1_whatAGiverGivesComesBehindWhatHeGave() {
        OneDrum x = CHECK.fine(SCORE, "gives 0 tap;gives 1 roll;gives 0 flam rest;");
        int[] due = {1, 2, 0};
        CHECK.due("of 0", x.given(0, 0, NONE), 3);
        CHECK.due("of 1", x.given(0, 1, NONE), 1);
        for (int k = 0; k < 3; k++) {
            CHECK.due("BEAT " + k, x.given(0, 0, k), due[k]);
        }
        CHECK.fine(SCORE, "gives 0 tap;".repeat(12) + "gives 1 tap;".repeat(12));
        CHECK.faulty(SCORE, "gives 0 tap;".repeat(12) + "gives 1 tap;".repeat(13), 3, 24 * 12 + 8);
    }

    @Says(in = "Term 1", words = "A HEARING's text: {'made' NUMBER {MOVE} ';'}")
    static void term1_aHearingsLinesAreOfTheirForm() {
        CHECK.fine(HEARING, "");
        form(HEARING, "made 0 ;", "WNS", 'M');
        form(HEARING, "made 0 left right ;", "WNSSS", 'M');
    }

    @Says(in = "Term 1", words = "(an ARMY; in place of what was told of it)")
    static void term1_whatIsToldOfAnArmyComesInPlaceOfWhatWas() {
        OneDrum x = CHECK.fine(HEARING, "made 0 left right;made 1 charge charge;made 0 retreat;");
        CHECK.due("of 0", x.told(0, 0, NONE), 1);
        CHECK.due("of 0", x.told(0, 0, 0), 4);
        CHECK.due("of 1", x.told(0, 1, NONE), 2);
        CHECK.due("none at last", CHECK.fine(HEARING, "made 0 left;made 0;").told(0, 0, NONE), 0);
        String six = "made 0" + Check.times(6, "left") + ";";
        CHECK.due("six, and six", CHECK.fine(HEARING, six + six).told(0, 0, NONE), 6);
    }

    @Says(in = "Term 1", words = {"VILLAGES' text: {('drop' NUMBER NUMBER | 'swap' NUMBER BEAT BEAT | ",
        "'twice' NUMBER BEAT | 'last' NUMBER) ';'}"})
    static void term1_villagesLinesAreOfTheirForm() {
        CHECK.fine(VILLAGES, "");
        form(VILLAGES, "drop 8 2 ;", "WNNS", ' ');
        form(VILLAGES, "swap 8 tap flam ;", "WNBBS", ' ');
        form(VILLAGES, "twice 8 tap ;", "WNBS", ' ');
        form(VILLAGES, "last 8 ;", "WNS", ' ');
    }

    @Says(in = "Term 1", words = "(the first NUMBER is the PARENT, 0 .. 7, 8 the drum)")
    static void term1_theParentIs0To7Or8TheDrum() {
        OneDrum x = CHECK.fine(VILLAGES, "last 8;last 0;last 1;last 2;last 3;last 4;last 5;last 08;");
        int[] due = {8, 0, 1, 2, 3, 4, 5, 8};
        for (int k = 0; k < 8; k++) {
            CHECK.due("PARENT of " + k, x.village(0, k, 0), due[k]);
        }
        CHECK.faulty(VILLAGES, "last 9;", 2, 5);
        CHECK.faulty(VILLAGES, "drop 9 1;", 2, 5);
        CHECK.faulty(VILLAGES, "swap 9 tap flam;", 2, 5);
        CHECK.faulty(VILLAGES, "twice 9 tap;", 2, 6);
    }

    @Says(in = "Term 1", words = "Later ones strike")
    static void term1_laterOnesStrike() {
        OneDrum x = CHECK.fine(WAR, "turn 4;turn 2;tired 9;tired 0;echo 3;echo 0;wet tap roll;wet tap tap;wet rest flam;"
            + "wet rest roll;from 0 3;from 0 0;from 1 1;step 1 4;step 1 2;lag 0 3;lag 0 1;place 1 20;place 1 0;");
        int[][] due = {{0, 2}, {1, 0}, {2, 0}, {10, 3}, {11, 1}, {20, 0}, {21, 1}, {30, 1}, {31, 2}, {40, 1}, {51, 0}};
        for (int[] pair : due) {
            CHECK.due("war(0, " + pair[0] + ")", x.war(0, pair[0]), pair[1]);
        }
    }

    @Says(in = "Term 1", words = "but ORDERS, BEATS of a SCORE, VILLAGES, which are further ones")
    static void term1_laterOrdersBeatsAndVillagesAreFurtherOnes() {
        OneDrum x = CHECK.fine(WAR, "order 0 left tap;order 0 left tap;order 0 right tap;");
        CHECK.due("orders", x.war(0, 60), 3);
        CHECK.due("order 0", x.order(0, 0, 0, 0), 1);
        CHECK.due("order 2", x.order(0, 0, 2, 0), 2);
        CHECK.due("beats", CHECK.fine(SCORE, "gives 0 tap;gives 0 tap;").given(0, 0, NONE), 2);
        CHECK.due("villages", CHECK.fine(VILLAGES, "last 8;last 8;").village(0, NONE, 0), 2);
    }

    // FAULTS

    @Says(in = "Term 1", words = "FAULTS of all, with places (a token's first byte; the end's)")
    static void term1_aFaultsPlaceIsItsTokensFirstByteOrTheEnds() {
        CHECK.faulty(WAR, "  turn\n \n 77 ;", 2, 10);
        CHECK.faulty(WAR, "  order   retreat", 1, 10);
        CHECK.faulty(WAR, "turn", 1, 4);
        CHECK.faulty(WAR, "turn 2", 1, 6);
        CHECK.faulty(WAR, "turn 2 \n  ", 1, 10);
        CHECK.faulty(SCORE, "gives 0 tap ", 1, 12);
        CHECK.faulty(HEARING, "made 0 left ", 1, 12);
        CHECK.faulty(VILLAGES, "last 8 ", 1, 7);
    }

    @Says(in = "Term 1", words = "1 the first byte or token with which no text goes on")
    static void term1_fault1IsOfTheFirstWithWhichNoTextGoesOn() {
        CHECK.faulty(WAR, "turn x y;", 1, 5);
        CHECK.faulty(WAR, "turn # x;", 1, 5);
        CHECK.faulty(WAR, "turn x #;", 1, 5);
        CHECK.faulty(WAR, "turn 2; # ;", 1, 8);
        CHECK.faulty(WAR, "turn 2; x; #", 1, 8);
        CHECK.faulty(WAR, "\000", 1, 0);
        CHECK.faulty(WAR, "turn 2;\000", 1, 7);
        CHECK.faulty(WAR, "turn 2;" + (char) 255, 1, 7);
        for (int sort = 0; sort < 4; sort++) {
            String[] lines = {"turn 2;", "gives 0 tap;", "made 0;", "last 8;"};
            for (int of = 0; of < 4; of++) {
                if (of != sort) {
                    CHECK.faulty(sort, lines[of], 1, 0);
                    CHECK.faulty(sort, lines[sort] + lines[of], 1, lines[sort].length());
                }
            }
        }
    }

    @Says(in = "Term 1", words = "(a longer row of digits is no token)")
    static void term1_aLongerRowOfDigitsIsFault1() {
        CHECK.faulty(WAR, "turn 002;", 1, 5);
        CHECK.faulty(WAR, "turn 100;", 1, 5);
        CHECK.faulty(WAR, "place 1 0020;", 1, 8);
        CHECK.faulty(WAR, "from 000 1;", 1, 5);
        CHECK.faulty(WAR, "turn " + "1".repeat(595), 1, 5);
        CHECK.faulty(WAR, "turn 4294967298;", 1, 5);
        CHECK.faulty(SCORE, "gives 000 tap;", 1, 6);
        CHECK.faulty(HEARING, "made 001;", 1, 5);
        CHECK.faulty(VILLAGES, "drop 8 009;", 1, 7);
        CHECK.faulty(WAR, "123", 1, 0);
    }

    /** Two FAULTS of one place, of which the least would count, can't be: no token can be two of these. */
    @Says(in = "Term 1", words = "If there is none, the first by place, of one place the least")
    static void term1_fault1StandsAheadOfAllOthersThenTheFirstByPlace() {
        CHECK.faulty(WAR, "turn 5;x", 1, 7);
        CHECK.faulty(WAR, "turn 5", 1, 6);
        CHECK.faulty(WAR, orders(7, 0) + "turn", 1, orders(7, 0).length() + 4);
        CHECK.faulty(WAR, "order 0 halt" + Check.times(5, "tap") + ";#", 1, 33);
        CHECK.faulty(SCORE, "gives 0" + Check.times(13, "tap"), 1, 59);
        CHECK.faulty(HEARING, "made 0" + Check.times(7, "left"), 1, 41);
        CHECK.faulty(VILLAGES, "last 8;".repeat(9) + "last 8", 1, 69);
        CHECK.faulty(VILLAGES, "swap 8 tap tap", 1, 14);
        CHECK.faulty(WAR, "turn 5;tired 10;", 2, 5);
        CHECK.faulty(WAR, "turn 4;tired 10;turn 5;", 2, 13);
        CHECK.faulty(WAR, "from 2 4;", 2, 5);
        CHECK.faulty(WAR, "order 0 halt" + Check.times(5, "tap") + ";turn 5;", 3, 29);
        CHECK.faulty(WAR, "turn 5;order 0 halt" + Check.times(5, "tap") + ";", 2, 5);
        CHECK.faulty(WAR, "order 2 halt" + Check.times(5, "tap") + ";", 2, 6);
        CHECK.faulty(WAR, orders(6, 0) + "order 0 halt" + Check.times(5, "tap") + ";", 3, orders(6, 0).length());
        CHECK.faulty(VILLAGES, "swap 8 tap tap;last 9;", 4, 11);
        CHECK.faulty(VILLAGES, "last 9;swap 8 tap tap;", 2, 5);
        CHECK.faulty(VILLAGES, "swap 9 tap tap;", 2, 5);
        CHECK.faulty(VILLAGES, "last 8;".repeat(8) + "swap 9 tap tap;", 3, 56);
        CHECK.faulty(VILLAGES, "swap 8 tap tap;" + "last 8;".repeat(8), 4, 11);
        CHECK.faulty(VILLAGES, "last 8;".repeat(7) + "swap 8 tap tap;last 8;", 4, 60);
    }

    @Says(in = "Term 1", words = "2 a NUMBER that can't be (as above")
    static void term1_fault2IsOfANumberThatCantBe() {
        CHECK.faulty(WAR, "turn 0;", 2, 5);
        CHECK.faulty(WAR, "turn 5;", 2, 5);
        CHECK.faulty(WAR, "tired 10;", 2, 6);
        CHECK.faulty(WAR, "echo 10;", 2, 5);
        CHECK.faulty(WAR, "from 0 4;", 2, 7);
        CHECK.faulty(WAR, "step 1 0;", 2, 7);
        CHECK.faulty(WAR, "step 1 5;", 2, 7);
        CHECK.faulty(WAR, "lag 1 4;", 2, 6);
        CHECK.faulty(WAR, "place 0 21;", 2, 8);
        CHECK.faulty(WAR, "place 2 0;", 2, 6);
        CHECK.faulty(WAR, "order 2 halt tap;", 2, 6);
        CHECK.faulty(SCORE, "gives 2 tap;", 2, 6);
        CHECK.faulty(HEARING, "made 2 left;", 2, 5);
        CHECK.faulty(VILLAGES, "drop 8 0;", 2, 7);
        CHECK.faulty(VILLAGES, "drop 8 10;", 2, 7);
        CHECK.faulty(VILLAGES, "last 9;", 2, 5);
    }

    @Says(in = "Term 1", words = "a PARENT, 0 .. 7, that is not a lesser one than the VILLAGE is")
    static void term1_fault2IsOfAParentThatIsNotALesserOne() {
        CHECK.faulty(VILLAGES, "last 0;", 2, 5);
        CHECK.faulty(VILLAGES, "last 7;", 2, 5);
        CHECK.faulty(VILLAGES, "last 8;last 1;", 2, 12);
        CHECK.faulty(VILLAGES, "last 8;last 2;", 2, 12);
        CHECK.faulty(VILLAGES, "last 8;".repeat(7) + "last 7;", 2, 54);
        CHECK.fine(VILLAGES, "last 8;".repeat(7) + "last 6;");
    }

    @Says(in = "Term 1", words = "a line with such a NUMBER tells its VILLAGE all the same")
    static void term1_aLineWithSuchANumberIsTheFirstFaultByPlace() {
        CHECK.faulty(VILLAGES, "last 9;last 0;last 1;", 2, 5);
        CHECK.faulty(VILLAGES, "drop 8 0;last 0;last 9;", 2, 7);
        CHECK.faulty(VILLAGES, "last 8;last 1;last 2;", 2, 12);
        CHECK.faulty(VILLAGES, "last 8;".repeat(7) + "last 9;last 7;", 2, 54);
        CHECK.faulty(VILLAGES, "drop 9 0;", 2, 5);
    }

    @Says(in = "Term 1", words = "3 a 7th ORDER of an ARMY, a 9th VILLAGE, at its first token")
    static void term1_fault3IsOfA7thOrderAndA9thVillageAtItsFirstToken() {
        for (int army = 0; army < 2; army++) {
            String six = orders(6, army);
            String sixOfOther = orders(6, 1 - army);
            CHECK.fine(WAR, six + sixOfOther);
            CHECK.faulty(WAR, six + " order " + army + " left tap;", 3, six.length() + 1);
            CHECK.faulty(WAR, six + sixOfOther + "order " + army + " left tap;", 3, six.length() + sixOfOther.length());
            CHECK.faulty(WAR, six + orders(2, army), 3, six.length());
        }
        CHECK.fine(VILLAGES, "last 8;".repeat(8));
        CHECK.faulty(VILLAGES, "last 8;".repeat(8) + "  last 8;", 3, 58);
        CHECK.faulty(VILLAGES, "last 8;".repeat(8) + "drop 7 0;", 3, 56);
        CHECK.faulty(VILLAGES, "last 8;".repeat(10), 3, 56);
    }

    @Says(in = "Term 1", words = "a 5th BEAT of an ORDER, a 13th of a GIVER, a 7th MOVE of an ARMY, at that token")
    static void term1_fault3IsOfA5thBeatA13thBeatAndA7thMoveAtThatToken() {
        CHECK.faulty(WAR, "order 1 halt tap rest flam roll  flam tap;", 3, 33);
        CHECK.faulty(WAR, orders(5, 0) + "order 0 halt" + Check.times(6, "tap") + ";", 3, orders(5, 0).length() + 29);
        CHECK.faulty(SCORE, "gives 0" + Check.times(14, "tap") + ";", 3, 56);
        CHECK.faulty(SCORE, "gives 1" + Check.times(12, "tap") + ";gives 0 tap;gives 1 roll;", 3, 76);
        CHECK.faulty(SCORE, "gives 1" + Check.times(11, "tap") + ";gives 1 roll roll;", 3, 65);
        CHECK.faulty(HEARING, "made 0" + Check.times(8, "left") + ";", 3, 37);
        CHECK.faulty(HEARING, "made 1;made 1" + Check.times(7, "left") + ";made 1;", 3, 44);
    }

    @Says(in = "Term 1", words = "4 a second BEAT of swap that is the first one, at that token")
    static void term1_fault4IsOfASwapsSecondBeatThatIsTheFirstOne() {
        CHECK.faulty(VILLAGES, "swap 8 rest rest;", 4, 12);
        CHECK.faulty(VILLAGES, "swap 8 tap  tap;", 4, 12);
        CHECK.faulty(VILLAGES, "swap 8 flam flam;", 4, 12);
        CHECK.faulty(VILLAGES, "last 8;swap 0 roll\nroll;", 4, 19);
        CHECK.fine(VILLAGES, "swap 8 rest tap;swap 8 tap rest;");
    }

    @Says(in = "Term 1", words = {"WARS, at most 2 (sort 0), SCORES, at most 2 (1), HEARINGS, at most 2 (2), ",
        "rows of VILLAGES, at most 2 (3), from 0 on"})
    static void term1_twoOfEachSortAreTheMost() {
        OneDrum x = new OneDrum();
        for (int sort = 0; sort < 4; sort++) {
            for (int k = 0; k < 4; k++) {
                CHECK.due("text(" + sort + ", NONE)", x.text(sort, NONE), k < 2 ? k : -2);
                CHECK.due("count(" + sort + ")", x.count(sort), Math.min(k + 1, 2));
            }
        }
    }
}
