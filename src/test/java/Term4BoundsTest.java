/** Term 4: the bounds of FAR, SAFE, HEADS, SHARED, of VILLAGES and of DRAWN, a test for each sentence. */
public final class Term4BoundsTest {
    private static final int NONE = OneDrum.NONE;
    private static final Check CHECK = new Check();

    public static void main(String[] args) {
        Sentences.run(Term4BoundsTest.class, CHECK);
    }

    // codes

    private static void far(String one, String other, int due) {
        for (int army = 0; army < 2; army++) {
            String order = "order " + army + " left ";
            OneDrum x = Check.with(order + one + ";" + order + other + ";", "");
            CHECK.due("FAR of " + one + " and " + other, x.far(0, army, 0, 1), due);
            CHECK.due("FAR of " + other + " and " + one, x.far(0, army, 1, 0), due);
        }
    }

    @Says(in = "Term 4", words = {"FAR of two ORDERS of an ARMY: the fewest BEATS to be put in, left out, or changed, ",
        "by which the one's BEATS become the other's"})
    static void term4_farIsFrom0To4() {
        far("tap", "tap", 0);
        far("tap flam roll rest", "tap flam roll rest", 0);
        far("tap", "flam", 1);
        far("tap", "tap flam", 1);
        far("tap", "flam tap", 1);
        far("tap flam roll rest", "flam roll rest", 1);
        far("tap flam roll rest", "tap flam rest", 1);
        far("tap flam roll rest", "flam roll rest tap", 2);
        far("tap flam", "flam tap", 2);
        far("tap", "rest flam roll tap", 3);
        far("tap", "rest flam roll flam", 4);
        far("tap tap tap tap", "roll roll roll roll", 4);
        CHECK.due("of one and itself", Check.with("order 0 left tap;", "").far(0, 0, 0, 0), 0);
    }

    private static void codes(String orders, int safe, int heads) {
        for (int army = 0; army < 2; army++) {
            OneDrum x = Check.with(orders.replace("order", "order " + army), "");
            CHECK.due(orders + " SAFE", x.codes(0, army, 0), safe);
            CHECK.due(orders + " HEADS", x.codes(0, army, 1), heads);
            CHECK.due("the other army's SAFE", x.codes(0, 1 - army, 0), NONE);
            CHECK.due("the other army's HEADS", x.codes(0, 1 - army, 1), 0);
        }
    }

    @Says(in = "Term 4", words = "SAFE: the least FAR of two ORDERS of unlike MOVES of one ARMY")
    static void term4_safeIsOfTwoOrdersOfUnlikeMoves() {
        codes("", NONE, 0);
        codes("order left tap;", NONE, 0);
        codes("order left tap;order left flam;", NONE, 0);
        codes("order left tap;order right tap;", 0, 1);
        codes("order left tap;order left flam;order right roll roll roll;", 3, 0);
        codes("order left tap tap tap tap;order right roll roll roll roll;", 4, 0);
        codes("order halt tap;order halt flam;order halt roll;order halt rest;order halt tap tap;order left roll roll roll;", 2, 2);
        OneDrum x = Check.with("order 0 left tap;order 1 right tap;", "");
        CHECK.due("of one army alone", x.codes(0, 0, 0), NONE);
        CHECK.due("of one army alone", x.codes(0, 1, 0), NONE);
    }

    @Says(in = "Term 4", words = "HEADS: couples of its ORDERS one of which begins with all BEATS of the other one (or is as it)")
    static void term4_headsAreCouplesOneOfWhichBeginsWithTheOther() {
        codes("order left tap;order left tap;", NONE, 1);
        codes("order left tap;".repeat(6), NONE, 15);
        codes("order left tap;order left tap flam;", NONE, 1);
        codes("order left tap flam;order left tap;", NONE, 1);
        codes("order left flam;order left tap flam;", NONE, 0);
        codes("order left tap flam roll rest;order left tap flam roll;order left tap flam;order left tap;", NONE, 6);
        codes("order left tap flam;order left tap roll;order left rest;", NONE, 0);
    }

    @Says(in = "Term 4", words = {"SHARED: couples of an ORDER of ARMY 0 and one of ARMY 1 of the same BEATS: as numbers ",
        "(6 times the first's, and the second's)"})
    static void term4_sharedAreFrom0To36() {
        CHECK.due("none", Check.with("", "").shared(0, NONE), 0);
        CHECK.due("none", Check.with("order 0 left tap;order 0 left tap;", "").shared(0, NONE), 0);
        CHECK.due("none", Check.with("order 0 left tap;order 1 left tap tap;", "").shared(0, NONE), 0);
        OneDrum x = Check.with("order 0 left tap;".repeat(6) + "order 1 halt tap;".repeat(6), "");
        CHECK.due("all", x.shared(0, NONE), 36);
        for (int k = 0; k < 36; k++) {
            CHECK.due("SHARED " + k, x.shared(0, k), k);
        }
        OneDrum last = Check.with("order 0 left flam;".repeat(5) + "order 0 left tap;" + "order 1 left roll;".repeat(5)
            + "order 1 right tap;", "");
        CHECK.due("one", last.shared(0, NONE), 1);
        CHECK.due("the last of each", last.shared(0, 0), 35);
        OneDrum oneOfSix = Check.with("order 0 left tap;" + "order 1 left roll;".repeat(5) + "order 1 right tap;", "");
        CHECK.due("one", oneOfSix.shared(0, NONE), 1);
        CHECK.due("the last of 1", oneOfSix.shared(0, 0), 5);
        OneDrum sixOfOne = Check.with("order 1 left tap;" + "order 0 left roll;".repeat(5) + "order 0 right tap;", "");
        CHECK.due("one", sixOfOne.shared(0, NONE), 1);
        CHECK.due("the last of 0", sixOfOne.shared(0, 0), 30);
    }

    // VILLAGES

    private static String beats(OneDrum x, int v) {
        StringBuilder out = new StringBuilder();
        int many = x.version(0, 0, 0, v, NONE);
        for (int k = 0; k < many; k++) {
            out.append(x.version(0, 0, 0, v, k));
        }
        return out.toString();
    }

    /** The versions of villages, as figures, when this is played. */
    private static void versions(String score, String villages, String... due) {
        for (int v = 0; v < due.length; v++) {
            OneDrum x = Check.withVillages("turn 4;", score, villages);
            CHECK.due(villages + " version " + v + " is '" + beats(x, v) + "', due is '" + due[v] + "'",
                beats(x, v).equals(due[v]), true);
        }
    }

    private static String full(String zero, String one) {
        return Check.gives(Check.times(12, zero), Check.times(12, one));
    }

    @Says(in = "Term 4", words = "A VILLAGE repeats what its PARENT repeats (the drum: what is PLAYED)")
    static void term4_aVillageRepeatsItsParentOrWhatIsPlayed() {
        OneDrum x = Check.withVillages("tired 2;wet rest roll;", "gives 0 tap tap;", "drop 8 9;last 0;");
        CHECK.due("what is PLAYED", beats(x, 0).equals("13"), true);
        CHECK.due("what its PARENT repeats", beats(x, 1).equals("1"), true);
        versions("", "drop 8 1;swap 8 tap flam;twice 8 tap;last 8;", "", "", "", "");
    }

    @Says(in = "Term 4", words = "DROP: without each n-th BEAT")
    static void term4_dropIsWithoutEachNthBeat() {
        String score = "gives 0 tap flam roll rest tap flam roll rest tap flam roll rest;";
        String[] due = {"", "131313", "12013023", "123123123", "1230230130", "1230130123",
            "12301201230", "12301231230", "12301230230"};
        for (int n = 1; n <= 9; n++) {
            versions(score, "drop 8 " + n + ";", due[n - 1]);
        }
        versions("gives 0" + Check.times(9, "tap") + ";", "drop 8 9;", "11111111");
        versions("gives 0" + Check.times(8, "tap") + ";", "drop 8 9;", "11111111");
    }

    @Says(in = "Term 4", words = "SWAP: each of two BEATS as the other one")
    static void term4_swapIsEachOfTwoBeatsAsTheOther() {
        String score = "gives 0 rest tap flam roll;";
        versions(score, "swap 8 rest roll;swap 8 roll rest;swap 8 tap flam;swap 2 tap flam;", "3120", "3120", "0213", "0123");
        versions("gives 0 flam flam;", "swap 8 tap roll;", "22");
    }

    @Says(in = "Term 4", words = "TWICE: each such BEAT twice, 60 BEATS at most (what is more is lost)")
    static void term4_twiceHas60BeatsAtMost() {
        versions("gives 0 tap flam tap;", "twice 8 tap;twice 8 roll;", "11211", "121");
        versions(full("tap", "tap"), "twice 8 tap;twice 0 tap;twice 1 tap;last 2;twice 3 tap;",
            "1".repeat(48), "1".repeat(60), "1".repeat(60), "1".repeat(59), "1".repeat(60));
        // just 60: none is lost
        String sixAndEighteen = Check.gives(Check.times(6, "tap") + Check.times(6, "flam"), Check.times(12, "flam"));
        String four = "1111" + "2222" + "1122" + "222222222222";
        versions(sixAndEighteen, "twice 8 tap;twice 0 tap;twice 1 flam;", four.replace("1", "11"), four.replace("1", "1111"),
            four.replace("1", "1111").replace("2", "22"));
        // 59 that end with two flams: of the second one the other is lost
        String twoFlams = Check.gives(Check.times(12, "tap"), Check.times(9, "roll") + " flam flam");
        String many = "1".repeat(16) + "3333" + "1".repeat(16) + "3333" + "1".repeat(16) + "3";
        versions(twoFlams, "twice 8 tap;twice 0 tap;twice 1 flam;twice 2 flam;",
            "1".repeat(8) + "3333" + "1".repeat(8) + "3333" + "1".repeat(8) + "322", many + "22", many + "222", many + "222");
    }

    @Says(in = "Term 4", words = "LAST: without the last BEAT")
    static void term4_lastIsWithoutTheLastBeatOfNoneWithoutMore() {
        versions("gives 0 tap flam roll;", "last 8;last 0;last 1;last 2;last 3;", "12", "1", "", "", "");
        versions(full("tap", "tap"), "last 8;", "1".repeat(23));
    }

    private static void tale(String score, String villages, int v, int farness, int likes) {
        OneDrum x = Check.withVillages("", score, villages);
        CHECK.due(villages + " FARNESS of " + v, x.tale(0, 0, 0, v, false), farness);
        CHECK.due(villages + " LIKES of " + v, x.tale(0, 0, 0, v, true), likes);
    }

    @Says(in = "Term 4", words = "VERSION: that")
    static void term4_theVersionIsWhatTheVillageRepeatsOfThatScoreInThatWar() {
        OneDrum x = Check.withVillages("", "gives 0 tap flam;", "swap 8 tap roll;");
        Check.text(x, 0, NONE, "tired 1;");
        Check.text(x, 1, NONE, "gives 0 tap tap tap;");
        Check.text(x, 3, NONE, "last 8;twice 0 rest;");
        // by WAR, SCORE, VILLAGES and the VILLAGE
        String[] due = {"0000: 32", "0010: 1", "0011: 1", "0100: 333", "0110: 11", "1000: 00", "1011: 00", "1110: 00", "1111: 0000"};
        for (String each : due) {
            int[] of = each.substring(0, 4).chars().map(c -> c - '0').toArray();
            String beats = each.substring(6);
            CHECK.due("how many of " + each, x.version(of[0], of[1], of[2], of[3], NONE), beats.length());
            for (int k = 0; k < beats.length(); k++) {
                CHECK.due("BEAT " + k + " of " + each, x.version(of[0], of[1], of[2], of[3], k), beats.charAt(k) - '0');
            }
        }
    }

    @Says(in = "Term 4", words = "FARNESS: FAR of it and what is PLAYED")
    static void term4_farnessIsOfTheVersionAndWhatIsPlayed() {
        tale("", "last 8;", 0, 0, 1);
        tale("gives 0 tap;", "last 8;", 0, 1, 1);
        tale(full("tap", "roll"), "drop 8 1;", 0, 24, 1);
        tale(full("tap", "roll"), "drop 8 1;twice 8 flam;", 1, 0, 2);
        tale(full("tap", "tap"), "swap 8 tap roll;", 0, 24, 1);
        tale(full("tap", "tap"), "twice 8 tap;twice 0 tap;swap 1 tap roll;", 1, 36, 2);
        tale(full("tap", "tap"), "twice 8 tap;twice 0 tap;swap 1 tap roll;", 2, 60, 4);
    }

    @Says(in = "Term 4", words = "LIKES: VILLAGES (bits) of the same VERSION")
    static void term4_likesAreBitsFrom0To7() {
        for (int v = 0; v < 8; v++) {
            tale("", "last 8;".repeat(8), v, 0, 255);
            tale("gives 0 tap tap tap tap tap tap tap tap tap;", "last 8;last 0;last 1;last 2;last 3;last 4;last 5;last 6;",
                v, v + 1, 1 << v);
        }
        tale("gives 0 tap flam;", "last 8;swap 8 tap flam;drop 8 2;last 1;swap 1 flam tap;", 0, 1, 1 + 4);
        tale("gives 0 tap flam;", "last 8;swap 8 tap flam;drop 8 2;last 1;swap 1 flam tap;", 3, 1, 8);
        tale("gives 0 tap flam;", "last 8;swap 8 tap flam;drop 8 2;last 1;swap 1 flam tap;", 4, 0, 16);
    }

    @Says(in = "Term 4", words = "DEPTH: how many tell it on from the drum to it, it among them")
    static void term4_depthIsFrom1To8() {
        OneDrum x = Check.withVillages("", "", "last 8;last 0;last 1;last 2;last 3;last 4;last 5;last 6;");
        for (int v = 0; v < 8; v++) {
            CHECK.due("DEPTH of " + v, x.village(0, v, 4), v + 1);
        }
        OneDrum y = Check.withVillages("", "", "last 8;last 8;last 0;last 0;last 1;last 8;last 4;last 0;");
        int[] due = {1, 1, 2, 2, 2, 1, 3, 2};
        for (int v = 0; v < 8; v++) {
            CHECK.due("DEPTH of " + v, y.village(0, v, 4), due[v]);
        }
    }

    // DRAWN

    /** Behind the first draw the last four are 0x0007FFFF, 0x00080000, 0xFFF7FFFF and 0xFFF80000: 7, 0, 7 and 0 are drawn. */
    private static final int[] SEEDS = {0, 1, 2, -1, -2, 77, 65535, 65536, 123456789, -123456789, Integer.MIN_VALUE,
        Integer.MAX_VALUE, 1759886110, 1470080643, -1298810082, -1588615549};

    /** On how many of n evenings there is no wind at any of so many places; all in 64 bits. */
    private static int calm(int seed, int n, int places) {
        long x = seed & 0xFFFFFFFFL;
        int calm = 0;
        for (int evening = 0; evening < n; evening++) {
            boolean wind = false;
            for (int place = 0; place < places; place++) {
                x = (x * 1103515245L + 12345L) % (1L << 32);
                wind |= x / 65536 % 8 == 0;
            }
            calm += wind ? 0 : 1;
        }
        return calm;
    }

    @Says(in = "Term 4", words = {"DRAWN by a SEED, x; a number below n is drawn: x becomes x * 1103515245 + 12345 (of 32 bits), ",
        "it is x shifted right by 16 without sign, remainder by n"})
    static void term4_whatIsDrawnIsOf32BitsWithoutSign() {
        for (int seed : SEEDS) {
            OneDrum x = Check.with("order 0 left tap;", "gives 0 tap;");
            for (int n = 0; n <= 40; n++) {
                CHECK.due("seed " + seed + ", " + n + " evenings", x.drawn(0, 0, seed, n, 11), calm(seed, n, 1));
            }
        }
    }

    @Says(in = "Term 4", words = "n evenings, 0 to 40: for each BEAT of the ROW, in order, a number below 8: 0: wind: a REST in truth")
    static void term4_aNumberIsDrawnForEachBeatOfEachOf0To40Evenings() {
        for (int seed : SEEDS) {
            OneDrum rests = Check.with("order 0 left rest tap rest;", "gives 0 rest tap rest;");
            OneDrum four = Check.with("order 0 left tap flam roll tap;", "gives 0 tap flam roll tap;");
            OneDrum none = Check.with("order 0 left rest;", "");
            for (int n = 0; n <= 40; n += 10) {
                CHECK.due("four of seed " + seed, four.drawn(0, 0, seed, n, 11), calm(seed, n, 4));
                CHECK.due("a REST is drawn for too, seed " + seed, rests.drawn(0, 0, seed, n, 11), calmInTheMiddle(seed, n));
                CHECK.due("nothing to be made", none.drawn(0, 0, seed, n, 11), 0);
            }
        }
        OneDrum x = Check.with("order 0 left rest;order 0 left tap;", full("tap", "tap"));
        CHECK.due("24 on 40 evenings", x.drawn(0, 0, 1, 40, 11), 960);
        CHECK.due("wind ahead of all else", Check.with("wet rest tap;order 0 left tap;", "gives 0 tap;").drawn(0, 0, 1, 40, 11), 40);
    }

    private static int calmInTheMiddle(int seed, int n) {
        long x = seed & 0xFFFFFFFFL;
        int calm = 0;
        for (int place = 0; place < 3 * n; place++) {
            x = (x * 1103515245L + 12345L) % (1L << 32);
            calm += place % 3 == 1 && x / 65536 % 8 != 0 ? 1 : 0;
        }
        return calm;
    }

    @Says(in = "Term 4", words = {"how often a MOVE was MADE by an ARMY, all evenings together; ",
        "on how many both MADE the same MOVES; on how many they MEET"})
    static void term4_bothMadeTheSameOrMeetOnNoneToAllEvenings() {
        OneDrum same = Check.with("order 0 left tap;order 1 left tap;place 1 0;", "gives 0 tap tap;");
        CHECK.due("the same on all", same.drawn(0, 0, 5, 40, 0), 40);
        CHECK.due("they meet on all", same.drawn(0, 0, 5, 40, 1), 40);
        OneDrum nothing = Check.with("", "");
        CHECK.due("none by both is the same", nothing.drawn(0, 0, 5, 40, 0), 40);
        CHECK.due("they meet on none", nothing.drawn(0, 0, 5, 40, 1), 0);
        OneDrum other = Check.with("order 0 left tap;order 0 left rest;", "gives 0 tap;");
        CHECK.due("one and none are not the same", other.drawn(0, 0, 5, 40, 0), 0);
        OneDrum more = Check.with("order 0 left tap;order 0 left rest;order 1 left tap;order 1 left rest;step 1 2;", "gives 0 tap tap;");
        CHECK.due("two and one are not the same", more.drawn(0, 0, 5, 40, 0), 0);
        OneDrum unlike = Check.with("order 0 left tap;order 1 right tap;", "gives 0 tap;");
        CHECK.due("on those of wind alone", unlike.drawn(0, 0, 5, 40, 0), 40 - calm(5, 40, 1));
        OneDrum meet = Check.with("place 1 2;order 0 charge tap;", "gives 0 tap;");
        CHECK.due("on calm ones alone", meet.drawn(0, 0, 5, 40, 1), calm(5, 40, 1));
        OneDrum byOne = Check.with("place 1 2;order 1 charge tap;", "gives 0 tap;");
        CHECK.due("on calm ones alone", byOne.drawn(0, 0, 5, 40, 1), calm(5, 40, 1));
    }
}
