import java.nio.charset.StandardCharsets;

/** Promises 1 to 8: their bounds and refused calls, a test for each sentence. */
public final class Promise1To8BoundsTest {
    private static final int NONE = OneDrum.NONE;
    private static final Check CHECK = new Check();
    /** "turn" */
    private static final int TURN = 0x7475726E;
    private static final int BLANKS = 0x20202020;
    private static final String[] TEXTS = {"turn 2;order 0 left tap;", "gives 0 tap;", "made 0 left;", "last 8;"};

    public static void main(String[] args) {
        Sentences.run(Promise1To8BoundsTest.class, CHECK);
    }

    private static void feed(OneDrum x, String text) {
        Check.feed(x, text.getBytes(StandardCharsets.ISO_8859_1));
    }

    private static void blanks(OneDrum x, int many) {
        for (int n = 0; n < many; n += 20) {
            x.feed(BLANKS, BLANKS, BLANKS, BLANKS, BLANKS);
        }
        CHECK.due("end(" + many + ")", x.end(many), many);
    }

    private static void isEmpty(OneDrum x, String when) {
        CHECK.due(when + ": no byte", x.end(1), NONE);
        CHECK.due(when + ": twenty behind none", x.feed(0, 0, 0, 0, 0), 20);
        CHECK.due(when + ": empty again", x.end(0), 0);
    }

    private static void fault(OneDrum x, String when, int fault, int place) {
        CHECK.due(when + ": FAULT", x.fault(0), fault);
        CHECK.due(when + ": its place", x.fault(1), place);
    }

    // 512 calls

    @Says(in = "What it is", words = "An object is used for at most 512 calls after it has been made")
    static void whatItIs_the512thCallIsAnsweredToo() {
        OneDrum x = new OneDrum();
        feed(x, TEXTS[0]); // three calls
        CHECK.due("the 4th call", x.text(0, NONE), 0);
        for (int call = 5; call < 512; call++) {
            int due = call % 2 == 0 ? 0 : 20;
            CHECK.due("call " + call, due == 0 ? x.end(0) : x.feed(1, 2, 3, 4, 5), due);
        }
        CHECK.due("the 512th call", x.order(0, 0, 0, 10), 1);
        OneDrum y = new OneDrum();
        for (int call = 1; call < 512; call++) {
            CHECK.due("image", y.image(call % 3), true);
        }
        CHECK.due("the 512th call", y.text(0, NONE), 0);
    }

    // Promise 1

    @Says(in = "Promise 1", words = "No WARS, SCORES, HEARINGS, VILLAGES")
    static void promise1_aNewObjectHasNothingToldToIt() {
        OneDrum x = new OneDrum();
        for (int sort = 0; sort < 4; sort++) {
            CHECK.due("count(" + sort + ")", x.count(sort), 0);
        }
        CHECK.due("war", x.war(0, 0), NONE);
        CHECK.due("order", x.order(0, 0, 0, 0), NONE);
        CHECK.due("given", x.given(0, 0, NONE), NONE);
        CHECK.due("row", x.row(0, 0, NONE, 0), -2);
        CHECK.due("heard", x.heard(0, 0, 0, NONE), NONE);
        CHECK.due("made", x.made(0, 0, 0, NONE, 0), -2);
        CHECK.due("march", x.march(0, 0, 0, 0), -1000);
        CHECK.due("meets", x.meets(0, 0), NONE);
        CHECK.due("force", x.force(0, 0, 0, 0, true), -2);
        CHECK.due("told", x.told(0, 0, NONE), -2);
        CHECK.due("bribes", x.bribes(0, 0, 0, 0), NONE);
        CHECK.due("meant", x.meant(0, 0, 0, 0, false), -2);
        CHECK.due("truce", x.truce(0, 0, 0, false), NONE);
        CHECK.due("far", x.far(0, 0, 0, 0), NONE);
        CHECK.due("codes", x.codes(0, 0, 1), -2);
        CHECK.due("shared", x.shared(0, NONE), NONE);
        CHECK.due("village", x.village(0, NONE, 0), -2);
        CHECK.due("version", x.version(0, 0, 0, 0, NONE), NONE);
        CHECK.due("tale", x.tale(0, 0, 0, 0, false), NONE);
        CHECK.due("drawn", x.drawn(0, 0, 0, 0, 0), NONE);
        CHECK.due("common", x.common(0, 0, 0), NONE);
        CHECK.due("readings", x.readings(0, 0, 0, false), -2);
        CHECK.due("unique", x.unique(0, 0, false), -2);
        CHECK.due("fix", x.fix(0, 0, 0, 0, false), NONE);
        fault(x, "new", 0, NONE);
        isEmpty(x, "new");
        Check.text(x, 0, NONE, TEXTS[0]);
        CHECK.due("another new one has nothing of that", new OneDrum().count(0), 0);
    }

    @Says(in = "Promise 1", words = "no images")
    static void promise1_aNewObjectHasNoImages() {
        OneDrum x = new OneDrum();
        for (int k = 0; k < 3; k++) {
            CHECK.due("again(" + k + ")", x.again(k), false);
        }
        x.image(0);
        for (int k = 0; k < 3; k++) {
            CHECK.due("another new one's again(" + k + ")", new OneDrum().again(k), false);
        }
    }

    // Promise 2

    @Says(in = "Promise 2", words = "The tape: twenty bytes come behind it, of each number the highest first")
    static void promise2_twentyBytesComeBehindTheHighestOfEachNumberFirst() {
        OneDrum x = new OneDrum();
        // "turn 3;tired 7;echo " and "9;place 1 20;from 1 " and "2;"
        x.feed(TURN, 0x20333B74, 0x69726564, 0x20373B65, 0x63686F20);
        x.feed(0x393B706C, 0x61636520, 0x31203230, 0x3B66726F, 0x6D203120);
        x.feed(0x323B2020, BLANKS, BLANKS, BLANKS, BLANKS);
        CHECK.due("text", x.text(0, NONE), 0);
        int[][] due = {{0, 3}, {1, 7}, {2, 9}, {51, 20}, {21, 2}};
        for (int[] pair : due) {
            CHECK.due("war(0, " + pair[0] + ")", x.war(0, pair[0]), pair[1]);
        }
        x.feed(TURN, 0x20323BFF, 0, 0, 0);
        CHECK.due("a byte of 255", x.text(0, NONE), NONE);
        fault(x, "a byte of 255", 1, 7);
        x.feed(0x80000000, 0, 0, 0, 0);
        CHECK.due("a byte of 128", x.text(0, NONE), NONE);
        fault(x, "a byte of 128", 1, 0);
        x.feed(0x00747572, 0x6E20323B, BLANKS, BLANKS, BLANKS);
        CHECK.due("a byte of 0", x.text(0, NONE), NONE);
        fault(x, "a byte of 0", 1, 0);
    }

    @Says(in = "Promise 2", words = "how many it has")
    static void promise2_feedAnswersHowManyBytesTheTapeHas() {
        OneDrum x = new OneDrum();
        for (int n = 20; n <= 600; n += 20) {
            CHECK.due("feed", x.feed(0, 0, 0, 0, 0), n);
        }
        x.end(7);
        CHECK.due("behind 7", x.feed(0, 0, 0, 0, 0), 27);
        x.end(0);
        CHECK.due("behind none", x.feed(-1, -1, -1, -1, -1), 20);
    }

    @Says(in = "Promise 2", words = "NONE, and nothing comes, if there would be more than 600")
    static void promise2_noneAndNothingComesIfThereWouldBeMoreThan600() {
        for (int have = 575; have <= 600; have++) {
            OneDrum x = new OneDrum();
            blanks(x, have);
            boolean fits = have <= 580;
            CHECK.due("feed behind " + have, x.feed(0, 0, 0, 0, 0), fits ? have + 20 : NONE);
            CHECK.due("no more than that", x.end(have + (fits ? 21 : 1)), NONE);
            CHECK.due("all that", x.end(have + (fits ? 20 : 0)), have + (fits ? 20 : 0));
        }
        OneDrum y = new OneDrum();
        blanks(y, 580);
        y.feed(TURN, 0x20333B20, BLANKS, BLANKS, BLANKS);
        CHECK.due("feed", y.feed(TURN, 0x20323B20, BLANKS, BLANKS, BLANKS), NONE);
        CHECK.due("text of what came before", y.text(0, NONE), 0);
        CHECK.due("turn", y.war(0, 0), 3);
    }

    // Promise 3

    @Says(in = "Promise 3", words = "The tape has its first n bytes alone: n")
    static void promise3_theTapeHasItsFirstNBytesAlone() {
        OneDrum x = new OneDrum();
        CHECK.due("end(0) of none", x.end(0), 0);
        x.feed(TURN, 0x20333B74, 0x69726564, 0x20373B65, 0x63686F20);
        CHECK.due("end at all", x.end(20), 20);
        CHECK.due("end within", x.end(7), 7);
        CHECK.due("what was behind is gone", x.end(8), NONE);
        x.feed(BLANKS, BLANKS, BLANKS, BLANKS, BLANKS);
        CHECK.due("text", x.text(0, NONE), 0);
        CHECK.due("turn", x.war(0, 0), 3);
        CHECK.due("not tired", x.war(0, 1), 0);
        feed(x, "wet tap flams");
        x.end(12);
        x.text(0, NONE);
        fault(x, "a word goes to the end alone", 1, 12);
        feed(x, "turn 12;");
        x.end(6);
        x.text(0, NONE);
        fault(x, "a NUMBER goes to the end alone", 1, 6);
        feed(x, "turn 2;tired 3;");
        x.end(6);
        x.text(0, NONE);
        fault(x, "no semicolon stands behind the end", 1, 6);
        x.feed(TURN, 0x20333B74, 0x69726564, 0x20373B65, 0x63686F20);
        CHECK.due("end(0)", x.end(0), 0);
        isEmpty(x, "end(0)");
        blanks(x, 600);
        CHECK.due("end(600)", x.end(600), 600);
        CHECK.due("end(599)", x.end(599), 599);
    }

    @Says(in = "Promise 3", words = "NONE if it has not so many")
    static void promise3_noneIfTheTapeHasNotSoMany() {
        OneDrum x = new OneDrum();
        int[] tooMany = {1, 20, 600, 601, Integer.MAX_VALUE};
        for (int n : tooMany) {
            CHECK.due("end(" + n + ") of none", x.end(n), NONE);
        }
        feed(x, "turn 3;");
        CHECK.due("end(8) of 7", x.end(8), NONE);
        CHECK.due("end(600) of 7", x.end(600), NONE);
        CHECK.due("end(MAX) of 7", x.end(Integer.MAX_VALUE), NONE);
        CHECK.due("all 7 are there", x.end(7), 7);
        CHECK.due("text", x.text(0, NONE), 0);
        blanks(x, 600);
        CHECK.due("end(601) of 600", x.end(601), NONE);
    }

    @Says(in = "Promise 3", words = "or n is below 0")
    static void promise3_noneIfNIsBelow0() {
        OneDrum x = new OneDrum();
        int[] below = {-1, -2, -20, -600, Integer.MIN_VALUE, Integer.MIN_VALUE + 7};
        for (int n : below) {
            CHECK.due("end(" + n + ") of none", x.end(n), NONE);
        }
        feed(x, "turn 3;");
        for (int n : below) {
            CHECK.due("end(" + n + ") of 7", x.end(n), NONE);
        }
        CHECK.due("all 7 are there", x.end(7), 7);
        CHECK.due("text", x.text(0, NONE), 0);
    }

    // Promise 4

    @Says(in = "Promise 4", words = "The tape is taken (and is empty then)")
    static void promise4_theTapeIsEmptyBehindEachText() {
        OneDrum x = new OneDrum();
        feed(x, TEXTS[0]);
        x.text(0, NONE);
        isEmpty(x, "a text");
        feed(x, TEXTS[0]);
        x.text(0, 0);
        isEmpty(x, "a text in place");
        feed(x, "turn 9;");
        x.text(0, NONE);
        isEmpty(x, "a FAULT");
        feed(x, TEXTS[0]);
        x.text(0, 1);
        isEmpty(x, "none such");
        feed(x, TEXTS[0]);
        x.text(0, -2);
        isEmpty(x, "none such");
        feed(x, TEXTS[0]);
        x.text(4, NONE);
        isEmpty(x, "no such sort");
        x.text(0, NONE);
        feed(x, TEXTS[0]);
        x.text(0, NONE);
        isEmpty(x, "as many as may be");
        x.text(0, 0);
        CHECK.due("an empty tape is an empty text", x.war(0, 60), 0);
    }

    @Says(in = "Promise 4", words = "as a text of a sort")
    static void promise4_aTextIsReadAsOneOfItsSort() {
        for (int sort = 0; sort < 4; sort++) {
            for (int of = 0; of < 4; of++) {
                OneDrum x = new OneDrum();
                CHECK.due("'" + TEXTS[of] + "' as sort " + sort, Check.text(x, sort, NONE, TEXTS[of]), of == sort ? 0 : NONE);
                fault(x, "'" + TEXTS[of] + "' as sort " + sort, of == sort ? 0 : 1, of == sort ? NONE : 0);
                for (int any = 0; any < 4; any++) {
                    CHECK.due("how many of sort " + any, x.count(any), any == sort && any == of ? 1 : 0);
                }
            }
        }
    }

    @Says(in = "Promise 4", words = {"a further one (at NONE)", "its number"})
    static void promise4_aFurtherOneAtNone() {
        OneDrum x = new OneDrum();
        for (int sort = 0; sort < 4; sort++) {
            for (int k = 0; k < 2; k++) {
                CHECK.due("sort " + sort, Check.text(x, sort, NONE, TEXTS[sort]), k);
                CHECK.due("count of " + sort, x.count(sort), k + 1);
            }
        }
        for (int k = 0; k < 2; k++) {
            CHECK.due("war", x.war(k, 0), 2);
            CHECK.due("score", x.given(k, 0, 0), 1);
            CHECK.due("hearing", x.told(k, 0, 0), 1);
            CHECK.due("villages", x.village(k, 0, 1), 3);
        }
    }

    @Says(in = "Promise 4", words = "or in the place of one: its number")
    static void promise4_inThePlaceOfOne() {
        for (int k = 0; k < 2; k++) {
            OneDrum x = new OneDrum();
            for (int sort = 0; sort < 8; sort++) {
                Check.text(x, sort % 4, NONE, TEXTS[sort % 4]);
            }
            CHECK.due("war", Check.text(x, 0, k, "tired 3;order 1 left tap;"), k);
            CHECK.due("score", Check.text(x, 1, k, "gives 1 roll roll;"), k);
            CHECK.due("hearing", Check.text(x, 2, k, "made 1;"), k);
            CHECK.due("villages", Check.text(x, 3, k, "drop 8 2;last 0;"), k);
            for (int sort = 0; sort < 4; sort++) {
                CHECK.due("count of " + sort, x.count(sort), 2);
            }
            CHECK.due("nothing of the old war is left", x.war(k, 0), 1);
            CHECK.due("nor of its orders", x.war(k, 60), 0);
            CHECK.due("the new one", x.war(k, 61), 1);
            CHECK.due("nor of the old score", x.given(k, 0, NONE), 0);
            CHECK.due("the new one", x.given(k, 1, NONE), 2);
            CHECK.due("nor of the old hearing", x.told(k, 0, NONE), NONE);
            CHECK.due("the new one", x.told(k, 1, NONE), 0);
            CHECK.due("nor of the old villages", x.village(k, 0, 1), 0);
            CHECK.due("the new ones", x.village(k, NONE, 0), 2);
            CHECK.due("the other war", x.war(1 - k, 60), 1);
            CHECK.due("the other score", x.given(1 - k, 0, NONE), 1);
            CHECK.due("the other hearing", x.told(1 - k, 0, NONE), 1);
            CHECK.due("the other villages", x.village(1 - k, NONE, 0), 1);
        }
    }

    @Says(in = "Promise 4", words = "NONE: a FAULT")
    static void promise4_noneOfAFaultAndNothingIsTold() {
        String[] faulty = {"tired 3;order 0 left flam;turn 5;", "gives 0 roll;gives 2 tap;", "made 0;made 1;made 2;", "drop 8 2;last 1;"};
        OneDrum x = new OneDrum();
        for (int sort = 0; sort < 4; sort++) {
            CHECK.due("of sort " + sort, Check.text(x, sort, NONE, faulty[sort]), NONE);
            CHECK.due("no further one", x.count(sort), 0);
            Check.text(x, sort, NONE, TEXTS[sort]);
            CHECK.due("of sort " + sort + " in place", Check.text(x, sort, 0, faulty[sort]), NONE);
            CHECK.due("still one", x.count(sort), 1);
        }
        CHECK.due("the war stays", x.war(0, 0), 2);
        CHECK.due("not tired", x.war(0, 1), 0);
        CHECK.due("its order stays", x.order(0, 0, 0, 10), 1);
        CHECK.due("the score stays", x.given(0, 0, 0), 1);
        CHECK.due("the hearing stays", x.told(0, 0, NONE), 1);
        CHECK.due("and tells nothing more", x.told(0, 1, NONE), NONE);
        CHECK.due("the villages stay", x.village(0, 0, 1), 3);
    }

    private static void refused(OneDrum x, int sort, int at) {
        int before = x.count(sort);
        Check.text(x, 0, NONE, "turn 9;");
        feed(x, "turn 9;");
        CHECK.due("text(" + sort + ", " + at + ")", x.text(sort, at), -2);
        fault(x, "text(" + sort + ", " + at + ")", 0, NONE);
        CHECK.due("no more than before", x.count(sort), before);
    }

    @Says(in = "Promise 4", words = "-2: there is none such")
    static void promise4_thereIsNoneSuch() {
        for (int sort = 0; sort < 4; sort++) {
            OneDrum x = new OneDrum();
            for (int many = 0; many <= 2; many++) {
                for (int at : Check.outside(NONE, many - 1)) {
                    if (at != NONE) {
                        CHECK.due("text(" + sort + ", " + at + ") of " + many, x.text(sort, at), -2);
                    }
                }
                refused(x, sort, many);
                Check.text(x, sort, NONE, TEXTS[sort]);
            }
        }
    }

    @Says(in = "Promise 4", words = "there are as many as may be")
    static void promise4_thereAreAsManyAsMayBe() {
        for (int sort = 0; sort < 4; sort++) {
            OneDrum x = new OneDrum();
            Check.text(x, sort, NONE, TEXTS[sort]);
            Check.text(x, sort, NONE, TEXTS[sort]);
            refused(x, sort, NONE);
            refused(x, sort, NONE);
            CHECK.due("of another sort there may be", x.text((sort + 1) % 4, NONE), 0);
        }
        OneDrum y = new OneDrum();
        Check.text(y, 0, NONE, "turn 2;");
        Check.text(y, 0, NONE, "turn 3;");
        CHECK.due("a third one", Check.text(y, 0, NONE, "turn 4;"), -2);
        CHECK.due("the first stays", y.war(0, 0), 2);
        CHECK.due("the second stays", y.war(1, 0), 3);
        CHECK.due("in place of one there may be", Check.text(y, 0, 1, "turn 4;"), 1);
    }

    @Says(in = "Promise 4", words = "or no such sort")
    static void promise4_noSuchSort() {
        OneDrum x = new OneDrum();
        for (int sort = 0; sort < 4; sort++) {
            Check.text(x, sort, NONE, TEXTS[sort]);
        }
        for (int sort : Check.outside(0, 3)) {
            for (int at = NONE; at <= 1; at++) {
                CHECK.due("text(" + sort + ", " + at + ")", Check.text(x, sort, at, TEXTS[0]), -2);
            }
        }
        for (int sort = 0; sort < 4; sort++) {
            CHECK.due("count of " + sort, x.count(sort), 1);
        }
    }

    @Says(in = "Promise 4", words = "(no text is read then, FAULT 0)")
    static void promise4_noTextIsReadThenFault0() {
        OneDrum x = new OneDrum();
        CHECK.due("a FAULT", Check.text(x, 0, NONE, "turn 9;"), NONE);
        fault(x, "of the text that is read", 2, 5);
        CHECK.due("none such", Check.text(x, 0, 0, "turn 9;"), -2);
        fault(x, "of none such", 0, NONE);
        Check.text(x, 0, NONE, "#");
        fault(x, "of the text that is read", 1, 0);
        CHECK.due("no such sort", Check.text(x, 4, NONE, "#"), -2);
        fault(x, "of no such sort", 0, NONE);
        x.text(0, NONE);
        x.text(0, NONE);
        Check.text(x, 0, 0, "#");
        fault(x, "of the text that is read", 1, 0);
        CHECK.due("as many as may be", Check.text(x, 0, NONE, "#"), -2);
        fault(x, "of as many as may be", 0, NONE);
    }

    // Promise 5

    @Says(in = "Promise 5", words = "Of the latest text(), what 0: the FAULT, 0 without")
    static void promise5_theFaultOfTheLatestText() {
        OneDrum x = new OneDrum();
        CHECK.due("without a text", x.fault(0), 0);
        String[] faulty = {"#", "last 9;", "last 8;".repeat(9), "swap 8 tap tap;"};
        for (int fault = 1; fault <= 4; fault++) {
            Check.text(x, 3, NONE, faulty[fault - 1]);
            CHECK.due("FAULT " + fault, x.fault(0), fault);
            CHECK.due("as long as no text is taken", x.fault(0), fault);
        }
        feed(x, "#");
        CHECK.due("feed and end are no text", x.fault(0), 4);
        x.end(0);
        x.text(3, NONE);
        CHECK.due("without", x.fault(0), 0);
    }

    @Says(in = "Promise 5", words = "1: its place, NONE without")
    static void promise5_itsPlaceOrNoneWithout() {
        OneDrum x = new OneDrum();
        CHECK.due("without a text", x.fault(1), NONE);
        Check.text(x, 0, NONE, "#");
        CHECK.due("at the first byte", x.fault(1), 0);
        Check.text(x, 0, NONE, " ".repeat(599) + "#");
        CHECK.due("at the last byte", x.fault(1), 599);
        Check.text(x, 0, NONE, " ".repeat(594) + "turn 2");
        CHECK.due("at the end", x.fault(1), 600);
        x.text(0, NONE);
        CHECK.due("without", x.fault(1), NONE);
    }

    @Says(in = "Promise 5", words = "NONE for another what")
    static void promise5_noneForAnotherWhat() {
        OneDrum x = new OneDrum();
        Check.text(x, 0, NONE, "turn 9;");
        for (int what : Check.but(0, 1)) {
            CHECK.due("fault(" + what + ")", x.fault(what), NONE);
        }
    }

    // Promise 6

    private static final int[] WAR_WHATS = {0, 1, 2, 10, 11, 12, 13, 20, 21, 30, 31, 40, 41, 50, 51, 60, 61};
    private static final String WAR = "turn 4;tired 9;echo 8;wet rest tap;wet tap flam;wet flam roll;wet roll rest;"
        + "from 0 3;from 1 2;step 0 4;step 1 3;lag 0 2;lag 1 1;place 0 20;place 1 19;" + "order 0 left tap;".repeat(6);
    private static final int[] WAR_DUE = {4, 9, 8, 1, 2, 3, 0, 3, 2, 4, 3, 2, 1, 20, 19, 6, 0};

    private static void asksWar(OneDrum x, int from, int to) {
        for (int i = from; i < to; i++) {
            CHECK.due("war(0, " + WAR_WHATS[i] + ")", x.war(0, WAR_WHATS[i]), WAR_DUE[i]);
        }
    }

    @Says(in = "Promise 6", words = "Of a WAR, what 0: TURN, 1: TIRED, 2: ECHO, 10 + b: as which a BEAT sounds")
    static void promise6_theDrumOfAWar() {
        asksWar(Check.with(WAR, ""), 0, 7);
    }

    @Says(in = "Promise 6", words = "20 + a, 30 + a, 40 + a, 50 + a: FROM, STEP, LAG, PLACE of an ARMY, 60 + a: how many ORDERS")
    static void promise6_theArmiesOfAWar() {
        asksWar(Check.with(WAR, ""), 7, WAR_WHATS.length);
    }

    @Says(in = "Promise 6", words = "NONE: there is none such")
    static void promise6_noneSuchAWar() {
        OneDrum x = Check.with(WAR, "");
        for (int many = 1; many <= 2; many++) {
            for (int war : Check.outside(0, many - 1)) {
                for (int what = 0; what < 3; what++) {
                    CHECK.due("war(" + war + ", " + what + ")", x.war(war, 10 * what), NONE);
                }
            }
            x.text(0, NONE);
        }
        CHECK.due("war(1, 0)", x.war(1, 0), 1);
    }

    @Says(in = "Promise 6", words = "or for another what")
    static void promise6_noneForAnotherWhat() {
        OneDrum x = Check.with(WAR, "");
        for (int what : Check.but(WAR_WHATS)) {
            CHECK.due("war(0, " + what + ")", x.war(0, what), NONE);
        }
    }

    // Promise 7

    private static final String ORDERS = "order 0 retreat tap flam roll rest;".repeat(5) + "order 0 halt roll;order 1 left flam tap;";

    @Says(in = "Promise 7", words = "Of ORDER k of an ARMY, what 0: its MOVE, 1: how many BEATS, 10 + i: BEAT i")
    static void promise7_theFirstAndTheLastOrderAndBeat() {
        OneDrum x = Check.with(ORDERS, "");
        int[][] due = {{0, 0, 0, 4}, {0, 0, 1, 4}, {0, 0, 10, 1}, {0, 0, 13, 0}, {0, 4, 13, 0}, {0, 5, 0, 0}, {0, 5, 1, 1},
            {0, 5, 10, 3}, {1, 0, 0, 1}, {1, 0, 1, 2}, {1, 0, 10, 2}, {1, 0, 11, 1}};
        for (int[] d : due) {
            CHECK.due("order(0, " + d[0] + ", " + d[1] + ", " + d[2] + ")", x.order(0, d[0], d[1], d[2]), d[3]);
        }
    }

    @Says(in = "Promise 7", words = "NONE: there is none such (of any)")
    static void promise7_noneSuchAWarArmyOrderOrBeat() {
        OneDrum x = Check.with(ORDERS, "");
        int[] whats = {0, 1, 10};
        for (int what : whats) {
            for (int war : Check.outside(0, 0)) {
                CHECK.due("war " + war, x.order(war, 0, 0, what), NONE);
            }
            for (int army : Check.outside(0, 1)) {
                CHECK.due("army " + army, x.order(0, army, 0, what), NONE);
            }
            for (int k : Check.outside(0, 5)) {
                CHECK.due("order " + k + " of 0", x.order(0, 0, k, what), NONE);
            }
            for (int k : Check.outside(0, 0)) {
                CHECK.due("order " + k + " of 1", x.order(0, 1, k, what), NONE);
            }
        }
        OneDrum y = Check.with(ORDERS, "");
        CHECK.due("no BEAT 4", y.order(0, 0, 0, 14), NONE);
        CHECK.due("no BEAT 1", y.order(0, 0, 5, 11), NONE);
        CHECK.due("no BEAT 3", y.order(0, 0, 5, 13), NONE);
        CHECK.due("no BEAT 2", y.order(0, 1, 0, 12), NONE);
        CHECK.due("no BEAT -1", y.order(0, 0, 0, 9), NONE);
    }

    @Says(in = "Promise 7", words = "or for another what")
    static void promise7_noneForAnotherWhat() {
        OneDrum x = Check.with(ORDERS, "");
        for (int what : Check.but(0, 1, 10, 11, 12, 13)) {
            CHECK.due("order(0, 0, 0, " + what + ")", x.order(0, 0, 0, what), NONE);
        }
    }

    // Promise 8

    @Says(in = "Promise 8", words = "How many BEATS of a GIVER (k NONE), or BEAT k")
    static void promise8_howManyOrBeatK() {
        OneDrum x = new OneDrum();
        Check.text(x, 1, NONE, Check.gives("roll" + Check.times(10, "tap") + " flam", ""));
        CHECK.due("twelve", x.given(0, 0, NONE), 12);
        CHECK.due("BEAT 0", x.given(0, 0, 0), 3);
        CHECK.due("BEAT 10", x.given(0, 0, 10), 1);
        CHECK.due("BEAT 11", x.given(0, 0, 11), 2);
        CHECK.due("none", x.given(0, 1, NONE), 0);
    }

    @Says(in = "Promise 8", words = "NONE: there is none such (of any)")
    static void promise8_noneSuchAScoreGiverOrBeat() {
        OneDrum x = new OneDrum();
        Check.text(x, 1, NONE, Check.gives(Check.times(12, "tap"), "tap"));
        for (int score : Check.outside(0, 0)) {
            CHECK.due("score " + score, x.given(score, 0, NONE), NONE);
            CHECK.due("score " + score, x.given(score, 0, 0), NONE);
        }
        for (int giver : Check.outside(0, 1)) {
            CHECK.due("giver " + giver, x.given(0, giver, NONE), NONE);
            CHECK.due("giver " + giver, x.given(0, giver, 0), NONE);
        }
        for (int k : Check.outside(NONE, 11)) {
            CHECK.due("BEAT " + k, x.given(0, 0, k), NONE);
        }
        CHECK.due("BEAT 1 of one", x.given(0, 1, 1), NONE);
        CHECK.due("BEAT 0 of none", CHECK.fine(1, "").given(0, 0, 0), NONE);
    }
}
