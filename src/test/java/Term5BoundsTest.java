/** Term 5: the bounds of COMMON, PERIOD, READINGS, UNIQUE, TWOFOLD and FIX, a test for each sentence. */
public final class Term5BoundsTest {
    private static final int NONE = OneDrum.NONE;
    private static final int LEFT = 1;
    private static final Check CHECK = new Check();
    private static final String[] BEATS = {"rest", "tap", "flam", "roll"};

    public static void main(String[] args) {
        Sentences.run(Term5BoundsTest.class, CHECK);
    }

    private static String full(String zero, String one) {
        return Check.gives(Check.times(12, zero), Check.times(12, one));
    }

    @Says(in = "Term 5", words = "The constants: `NONE = -1`: There is none")
    static void term5_noneIsMinus1() {
        CHECK.due("NONE", OneDrum.NONE, -1);
    }

    // COMMON and PERIOD

    private static void common(String war, String score, int many, int from) {
        OneDrum x = Check.with(war, score);
        CHECK.due(war + score + " COMMON", x.common(0, 0, 0), many);
        CHECK.due(war + score + " from", x.common(0, 0, 1), from);
    }

    @Says(in = "Term 5", words = {"COMMON of a SCORE: the most BEATS one behind the other that both ARMIES HEAR alike ",
        "(each as it HEARS them, from any of its own on)"})
    static void term5_commonIsFrom0To24() {
        common("", full("tap", "roll"), 24, 0);
        common("from 1 1;", full("tap", "tap"), 23, 0);
        common("from 0 3;step 0 4;", full("tap", "tap"), 6, 0);
        common("step 0 2;from 1 1;step 1 2;", full("tap", "roll"), 0, 0);
        common("step 0 2;from 1 1;step 1 2;", "gives 0 tap flam roll;gives 1 rest tap flam;", 2, 0);
        common("step 0 2;from 1 1;step 1 2;", "gives 0 roll tap flam;gives 1 tap flam roll;", 2, 1);
        common("", "gives 0 tap;", 1, 0);
        common("from 1 3;", "gives 0 tap flam flam roll;", 1, 3);
        common("from 0 3;", "gives 0 tap flam flam roll;", 1, 0);
    }

    @Says(in = "Term 5", words = "from which of ARMY 0's on, of several the first (0, if there are none)")
    static void term5_commonIsFromTheFirstOfSeveralAnd0IfThereAreNone() {
        common("", "", 0, 0);
        common("from 0 3;", "gives 0 tap tap;", 0, 0);
        common("from 1 3;", "gives 0 tap tap;", 0, 0);
        common("step 0 2;from 1 1;step 1 2;", "gives 0 roll tap roll tap;gives 1 tap rest rest rest;", 1, 1);
        common("step 0 2;from 1 1;step 1 2;", "gives 0 roll tap roll tap;gives 1 rest rest tap roll;", 2, 1);
        // of 1 2 1 2 0 0 and 3 3 3 1 2 3 the two at 0 and at 2
        common("step 0 2;from 1 1;step 1 2;", "gives 0 tap flam tap flam rest rest;gives 1 roll roll roll tap flam roll;", 2, 0);
        common("from 0 3;from 1 3;", "gives 0 tap tap tap roll;", 1, 0);
    }

    private static void period(String war, String score, int due) {
        CHECK.due(war + score + " PERIOD", Check.with(war, score).common(0, 0, 2), due);
    }

    @Says(in = "Term 5", words = "PERIOD: the least n, 1 or more, such that each BEAT PLAYED is as the one n places behind it, if there is one")
    static void term5_periodIsFrom1To24() {
        period("", "gives 0 tap;", 1);
        period("", full("tap", "tap"), 1);
        period("", full("tap", "roll"), 2);
        period("", "gives 0 tap flam;", 2);
        period("", "gives 0 tap flam tap;", 2);
        period("", "gives 0 tap flam roll tap flam;", 3);
        period("", "gives 0 tap tap flam;", 3);
        period("turn 4;", Check.gives(Check.times(12, "tap"), Check.times(11, "tap") + " roll"), 24);
        period("turn 4;", Check.gives("roll" + Check.times(11, "tap"), Check.times(11, "tap") + " roll"), 23);
        period("tired 9;", full("roll", "roll"), 9);
    }

    @Says(in = "Term 5", words = "(0 without BEATS)")
    static void term5_periodIs0WithoutBeats() {
        period("", "", 0);
        period("tired 3;echo 1;", "", 0);
    }

    // READINGS

    private static void readings(String orders, String score, long ways, long few) {
        for (int army = 0; army < 2; army++) {
            OneDrum x = Check.with(orders.replace("order", "order " + army), score);
            CHECK.due(orders + score + " READINGS", x.readings(0, 0, army, false), ways);
            CHECK.due(orders + score + " fewest", x.readings(0, 0, army, true), few);
            CHECK.due(orders + score + " once more", x.readings(0, 0, army, false), ways);
        }
    }

    @Says(in = "Term 5", words = {"READINGS of an ARMY: in how many ways all that it HEARS is BEATS of its ORDERS ",
        "one behind the other, none DANCED to"})
    static void term5_readingsAreOfAllThatIsHeard() {
        readings("", "", 1, 0);
        readings("order left tap;", "", 1, 0);
        readings("", "gives 0 tap;", 0, NONE);
        readings("order left tap;", "gives 0 tap flam;", 0, NONE);
        readings("order left tap;", "gives 0 flam tap;", 0, NONE);
        readings("order left tap tap;", "gives 0 tap tap tap;", 0, NONE);
        readings("order left tap tap;", "gives 0 tap tap tap tap;", 1, 2);
        readings("order left tap tap;order left tap tap tap;", "gives 0 tap tap tap tap tap;", 2, 2);
        CHECK.due("nothing is heard", Check.with("from 0 2;", "gives 0 tap tap;").readings(0, 0, 0, false), 1);
        CHECK.due("nothing is heard", Check.with("from 0 2;", "gives 0 tap tap;").readings(0, 0, 0, true), 0);
        CHECK.due("what is heard alone", Check.with("from 0 1;order 0 left tap;", "gives 0 flam tap;").readings(0, 0, 0, false), 1);
    }

    @Says(in = "Term 5", words = "(of like ORDERS each is a way of its own); the fewest ORDERS in one")
    static void term5_ofLikeOrdersEachIsAWayOfItsOwn() {
        readings("order left tap;order left tap;", "gives 0 tap;", 2, 1);
        readings("order left tap;order right tap;", "gives 0 tap tap tap;", 8, 3);
        // six to the power of 24, which no int holds
        readings("order left tap;".repeat(6), full("tap", "tap"), 4738381338321616896L, 24);
        readings("order left tap;order left tap tap tap tap;", full("tap", "tap"), ways(24), 6);
        readings("order left tap tap tap tap;order left tap tap tap;", "gives 0 tap tap tap tap tap tap;", 1, 2);
        // 1 2 30, and of fewer ORDERS, though it ends with a shorter one, 123 0
        readings(orders("1", "2", "123", "30", "0"), "gives 0 tap flam roll rest;", 2, 2);
        // 12 30, and of more ORDERS 12 3 0
        readings(orders("12", "3", "0", "30"), "gives 0 tap flam roll rest;", 2, 2);
    }

    /** In how many ways so many are ones and fours. */
    private static long ways(int many) {
        if (many < 4) {
            return 1;
        }
        return ways(many - 1) + ways(many - 4);
    }

    // UNIQUE

    /** Of either army, its orders told in this order and in the other one, beside one of the other army that is like. */
    private static void unique(String orders, int twofold) {
        String[] lines = orders.split(";");
        StringBuilder turned = new StringBuilder();
        for (int i = lines.length - 1; i >= 0 && !orders.isEmpty(); i--) {
            turned.append(lines[i]).append(';');
        }
        for (int army = 0; army < 2; army++) {
            for (String told : new String[] {orders, turned.toString()}) {
                String other = orders.isEmpty() ? "" : (lines[0] + ";").replace("order", "order " + (1 - army));
                OneDrum x = Check.with(told.replace("order", "order " + army) + other, "");
                CHECK.due(told + " UNIQUE", x.unique(0, army, false), twofold == NONE ? 1 : 0);
                CHECK.due(told + " TWOFOLD", x.unique(0, army, true), twofold);
                CHECK.due(other + " UNIQUE", x.unique(0, 1 - army, false), 1);
            }
        }
    }

    /** Orders whose beats are told as figures. */
    private static String orders(String... figures) {
        StringBuilder out = new StringBuilder();
        for (String each : figures) {
            out.append("order left");
            for (char figure : each.toCharArray()) {
                out.append(' ').append(BEATS[figure - '0']);
            }
            out.append(';');
        }
        return out.toString();
    }

    @Says(in = "Term 5", words = "UNIQUE: whether no row of BEATS can be ORDERS of an ARMY one behind the other in two ways")
    static void term5_uniqueIfNoRowIsOrdersInTwoWays() {
        unique("", NONE);
        unique("order left tap;", NONE);
        unique("order left rest;order left tap;order left flam;order left roll;", NONE);
        unique("order left tap;order left tap flam;", NONE);
        unique("order left tap;order left tap flam;order left flam flam;", NONE);
        unique("order left tap tap flam;order left tap;order left flam tap flam tap;", NONE);
        unique("order left tap;order left flam tap;order left flam flam tap;order left flam flam flam tap;", NONE);
        unique("order left tap;order right tap;", 1);
        unique(orders("0", "10", "20", "30", "110", "120"), NONE);
    }

    @Says(in = "Term 5", words = "TWOFOLD: how many BEATS the shortest row has that can")
    static void term5_twofoldIsTheShortestSuchRow() {
        unique("order left tap;order left tap;", 1);
        unique("order left tap flam roll rest;order right tap flam roll rest;", 4);
        unique("order left tap;order left tap tap;", 2);
        unique("order left tap tap;order left tap tap tap;", 5);
        unique("order left tap tap tap;order left tap tap tap tap;", 7);
        unique("order left tap;order left tap flam;order left flam flam;order left flam roll;order left roll;", 3);
        unique("order left tap;order left tap tap tap tap;order left flam;order right flam;", 1);
        unique("order left tap;order left tap flam roll rest;order left flam roll rest flam;order left flam;", 5);
        // 101 010 1 is 1 010 101
        unique(orders("101", "010", "1"), 7);
        // 1001 3100 1310 013 100 is 100 1310 013 1001 3100
        unique(orders("013", "1310", "1001", "21", "100", "3100"), 18);
        // 0112 0001 2000 0112 0011 is 011 2000 120 0001 120 011
        unique(orders("0112", "0001", "2000", "011", "120", "0011"), 20);
    }

    // FIX

    private static void fix(String war, String score, int many, int bits) {
        OneDrum x = Check.with(war, score);
        CHECK.due(war + score + " FIX", x.fix(0, 0, 0, LEFT, false), many);
        CHECK.due(war + score + " which", x.fix(0, 0, 0, LEFT, true), bits);
    }

    @Says(in = "Term 5", words = {"FIX of an ARMY and a MOVE: the fewest places of the ROW, 0 to 2, at which other BEATS given ",
        "would let that MOVE be among those it MADE"})
    static void term5_fixIsOf0To2Places() {
        fix("order 0 left tap;", "gives 0 flam tap;", 0, 0);
        fix("order 0 left tap;", "gives 0 flam;", 1, 1);
        fix("order 0 left tap tap;", "gives 0 flam flam;", 2, 3);
        fix("order 0 left tap tap tap;", "gives 0 flam flam flam;", NONE, NONE);
        fix("order 0 left tap tap tap tap;", "gives 0 tap flam flam tap;", 2, 6);
        fix("order 0 left tap tap tap tap;", "gives 0 flam flam flam tap;", NONE, NONE);
        fix("order 0 left tap;", "", NONE, NONE);
        fix("", "gives 0 tap;", NONE, NONE);
        fix("order 0 left tap tap;", "gives 0 tap;", NONE, NONE);
        fix("tired 1;order 0 left tap;", "gives 0 tap;", NONE, NONE);
        fix("tired 1;order 0 left rest;", "gives 0 tap;", 0, 0);
        fix("wet tap roll;wet roll tap;order 0 left tap;", "gives 0 tap;", 1, 1);
        fix("echo 1;from 0 1;wet tap roll;order 0 left tap;", "gives 0 rest rest;", 1, 1);
        fix("echo 1;from 0 1;wet tap roll;order 0 left tap;", "gives 0 tap tap;", 2, 3);
    }

    @Says(in = "Term 5", words = "which (bits), of several the least")
    static void term5_fixIsTheLeastOfSeveralUpToPlace23() {
        fix("order 0 left tap;", "gives 0 flam flam flam;", 1, 1);
        fix("from 0 2;order 0 left tap;", "gives 0 flam flam flam flam;", 1, 4);
        fix("order 0 left tap tap;", "gives 0 roll flam tap flam;", 1, 2);
        fix("order 0 left tap tap tap;", "gives 0 flam flam flam tap flam flam tap;", 2, 6);
        // six are heard, at places 3, 7, 11, 15, 19, 23
        String hears = "turn 4;from 0 3;step 0 4;order 0 left ";
        String last = Check.gives(Check.times(11, "flam") + " tap", Check.times(12, "flam"));
        fix(hears + "tap roll;", last, 1, 1 << 23);
        String lastButOne = Check.gives(Check.times(7, "flam") + " tap" + Check.times(4, "flam"),
            Check.times(7, "flam") + " tap" + Check.times(4, "flam"));
        fix(hears + "tap tap roll roll;", lastButOne, 2, 1 << 19 | 1 << 23);
        fix(hears + "roll;", full("tap", "tap"), 1, 1 << 3);
    }
}
