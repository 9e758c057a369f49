/** Promises 14, 16 to 18, 29: what can be reached by beats, and what was behind what was heard. */
public final class SearchTest {
    private static final int NONE = OneDrum.NONE;
    private static final Check CHECK = new Check();

    public static void main(String[] args) {
        forcing();
        bribing();
        meaning();
        truces();
        fixes();
        CHECK.finish();
    }

    private static OneDrum war(String text) {
        return Check.with(text, "");
    }

    private static OneDrum all(String war, String score, String hearing) {
        OneDrum x = Check.with(war, score);
        Check.text(x, 2, NONE, hearing);
        return x;
    }

    private static void forcing() {
        OneDrum x = war("order 0 left tap;order 1 right flam;");
        CHECK.due("nothing given", x.force(0, 0, 1, 0, false), NONE);
        CHECK.due("nothing given", x.force(0, 0, 1, 0, true), 0);
        CHECK.due("one tap", x.force(0, 0, 1, 1, false), 1);
        CHECK.due("one tap", x.force(0, 0, 1, 1, true), 1);
        CHECK.due("rest tap", x.force(0, 0, 1, 2, false), 1);
        CHECK.due("any with a tap", x.force(0, 0, 1, 2, true), 7);
        CHECK.due("any with a tap", x.force(0, 0, 1, 3, true), 37);
        CHECK.due("rest rest flam", x.force(0, 1, 2, 3, false), 2);
        CHECK.due("any with a flam", x.force(0, 1, 2, 3, true), 37);
        CHECK.due("no such order", x.force(0, 0, 2, 3, false), NONE);
        CHECK.due("no such order", x.force(0, 0, 2, 3, true), 0);
        OneDrum y = war("order 0 left tap flam;");
        CHECK.due("the other one stands between", y.force(0, 0, 1, 3, true), 0);
        OneDrum z = war("turn 2;order 0 left tap flam;order 1 right tap;from 1 1;step 1 2;");
        CHECK.due("both in one turn", z.force(0, 0, 1, 2, false), 6);
        CHECK.due("both in one turn", z.force(0, 0, 1, 2, true), 1);
        // places 2, 3 are his, and 3 he hears
        CHECK.due("heard by 1", z.force(0, 1, 2, 2, false), 1);
        CHECK.due("heard by 1", z.force(0, 1, 2, 2, true), 4);
        OneDrum s = war("order 0 left tap;order 0 right tap roll;");
        CHECK.due("a roll behind spoils it", s.force(0, 0, 1, 1, true), 0);
        CHECK.due("none such", s.force(1, 0, 1, 1, true), -2);
        CHECK.due("none such", s.force(-1, 0, 1, 1, true), -2);
        CHECK.due("none such", s.force(0, 2, 1, 1, true), -2);
        CHECK.due("none such", s.force(0, -1, 1, 1, true), -2);
        CHECK.due("none such", s.force(0, 0, 5, 1, true), -2);
        CHECK.due("none such", s.force(0, 0, -1, 1, false), -2);
        CHECK.due("another n", s.force(0, 0, 1, 4, false), -2);
        CHECK.due("another n", s.force(0, 0, 1, -1, false), -2);
    }

    private static void bribe(OneDrum x, int ways, int fewest, int which) {
        CHECK.due("ways", x.bribes(0, 0, 0, 0), ways);
        CHECK.due("fewest", x.bribes(0, 0, 0, 1), fewest);
        CHECK.due("which", x.bribes(0, 0, 0, 2), which);
    }

    private static void bribing() {
        String war = "order 0 left tap;order 1 right flam;";
        bribe(all(war, "gives 0 tap tap tap;", "made 0 left;"), 3, 2, 3);
        bribe(all(war, "gives 0 tap tap tap;", "made 0 left left left;"), 1, 0, 0);
        bribe(all(war, "gives 0 tap tap tap;", "made 0 right;"), 0, NONE, NONE);
        bribe(all(war, "gives 0 tap rest roll;", ""), 4, 0, 0);
        bribe(all(war, "gives 0 tap rest flam;", "made 0;"), 2, 1, 1);
        bribe(all(war, "gives 0 tap rest flam;", "made 0;made 1;"), 1, 2, 5);
        bribe(all(war, "", "made 0;"), 1, 0, 0);
        bribe(all(war + "wet rest tap;", "gives 0 roll;", "made 0 left;"), 1, 1, 1);
        bribe(all(war + "echo 1;", "gives 0 flam tap;", "made 0 left;made 1 right;"), 2, 0, 0);
        OneDrum x = all(war, "gives 0 tap tap tap tap tap tap;gives 1 tap tap tap tap tap tap;", "made 0 left;");
        bribe(x, 12, 11, 2047);
        Check.text(x, 1, 0, "gives 0 tap tap tap tap tap tap;gives 1 tap tap tap tap tap tap tap;");
        bribe(x, NONE, NONE, NONE);
        CHECK.due("another what", x.bribes(0, 0, 0, 3), NONE);
        CHECK.due("another what", x.bribes(0, 0, 0, -1), NONE);
        Check.text(x, 1, 0, "gives 0 tap;");
        CHECK.due("such", x.bribes(0, 0, 0, 0), 1);
        CHECK.due("another what", x.bribes(0, 0, 0, 3), NONE);
        CHECK.due("another what", x.bribes(0, 0, 0, -1), NONE);
        CHECK.due("none such", x.bribes(1, 0, 0, 0), NONE);
        CHECK.due("none such", x.bribes(0, 1, 0, 0), NONE);
        CHECK.due("none such", x.bribes(0, 0, 1, 0), NONE);
        CHECK.due("none such", x.bribes(0, 0, -1, 0), NONE);
    }

    private static void meaning() {
        String war = "order 0 left tap;order 0 right tap flam;order 1 charge roll;";
        OneDrum x = all(war, "gives 0 tap;gives 1 tap tap tap;", "made 0 right;");
        CHECK.due("n 0", x.meant(0, 0, 0, 0, false), 0);
        CHECK.due("n 0", x.meant(0, 0, 0, 0, true), NONE);
        CHECK.due("a flam", x.meant(0, 0, 0, 1, false), 1);
        CHECK.due("a flam", x.meant(0, 0, 0, 1, true), 2);
        CHECK.due("a flam and no tap", x.meant(0, 0, 0, 2, false), 3);
        CHECK.due("a flam and a rest", x.meant(0, 0, 0, 2, true), 8);
        CHECK.due("a flam and four without taps", x.meant(0, 0, 0, 5, false), 81);
        CHECK.due("a flam and four rests", x.meant(0, 0, 0, 5, true), 512);
        Check.text(x, 2, 0, "made 0 left;made 1 charge;");
        CHECK.due("a roll", x.meant(0, 0, 0, 1, true), 3);
        CHECK.due("a roll and a rest or a flam, a rest and a roll", x.meant(0, 0, 0, 2, false), 3);
        CHECK.due("a rest and a roll", x.meant(0, 0, 0, 2, true), 3);
        Check.text(x, 2, 0, "");
        CHECK.due("nothing told", x.meant(0, 0, 0, 5, false), 1024);
        CHECK.due("nothing told", x.meant(0, 0, 0, 0, true), 0);
        CHECK.due("another n", x.meant(0, 0, 0, 6, true), -2);
        CHECK.due("another n", x.meant(0, 0, 0, -1, true), -2);
        CHECK.due("none such", x.meant(1, 0, 0, 1, true), -2);
        CHECK.due("none such", x.meant(0, 1, 0, 1, true), -2);
        CHECK.due("none such", x.meant(0, 0, 1, 1, false), -2);
        CHECK.due("the score is as it was", x.given(0, 1, NONE), 3);
    }

    private static void truces() {
        OneDrum x = war("order 0 left tap flam;order 1 right flam roll;order 1 halt tap rest tap rest roll;");
        CHECK.due("no war", x.truce(0, 1, 2, false), NONE);
        Check.text(x, 0, NONE, "order 0 left tap flam;order 1 right flam roll;order 1 charge roll roll roll roll;");
        CHECK.due("tap flam roll", x.truce(0, 1, 2, false), 3);
        CHECK.due("tap flam roll", x.truce(0, 1, 2, true), 27);
        CHECK.due("not by 5", x.truce(0, 1, 3, false), NONE);
        CHECK.due("not by 5", x.truce(0, 1, 3, true), NONE);
        CHECK.due("no such order", x.truce(0, 2, 2, false), NONE);
        Check.text(x, 0, 0, "order 0 left tap;order 1 charge roll roll roll roll;");
        CHECK.due("five", x.truce(0, 1, 3, false), 5);
        CHECK.due("tap and four rolls", x.truce(0, 1, 3, true), 511);
        Check.text(x, 0, 0, "order 0 left rest;order 1 left rest;");
        CHECK.due("one rest", x.truce(0, 1, 1, false), 1);
        CHECK.due("one rest", x.truce(0, 1, 1, true), 0);
        CHECK.due("none such", x.truce(1, 1, 1, true), NONE);
        CHECK.due("none such", x.truce(-1, 1, 1, true), NONE);
        CHECK.due("none such", x.truce(0, 5, 1, true), NONE);
        CHECK.due("none such", x.truce(0, 1, 5, true), NONE);
        CHECK.due("none such", x.truce(0, -1, 1, true), NONE);
        CHECK.due("none such", x.truce(0, 1, -1, true), NONE);
    }

    private static void fixed(String war, String score, int many, int bits) {
        OneDrum x = Check.with(war, score);
        CHECK.due(war + score + " fix", x.fix(0, 0, 0, 1, false), many);
        CHECK.due(war + score + " fix bits", x.fix(0, 0, 0, 1, true), bits);
    }

    private static void fixes() {
        fixed("order 0 left tap;", "gives 0 tap;", 0, 0);
        fixed("order 0 left tap;", "gives 0 flam roll;", 1, 1);
        fixed("order 0 left tap;from 0 1;", "gives 0 flam roll;", 1, 2);
        fixed("order 0 left tap tap;", "gives 0 flam roll tap roll;", 1, 2);
        fixed("order 0 left tap tap;", "gives 0 flam roll flam;", 2, 3);
        fixed("order 0 left tap tap tap;", "gives 0 flam roll flam;", NONE, NONE);
        fixed("order 0 left tap tap tap;", "gives 0 flam roll flam roll tap;", 2, 12);
        fixed("order 0 left tap;", "", NONE, NONE);
        fixed("order 0 left tap;tired 1;", "gives 0 flam;", NONE, NONE);
        fixed("order 0 left tap;order 0 right rest;from 0 3;wet tap roll;echo 2;", "gives 0 rest rest rest roll;", 2, 10);
        fixed("order 0 left roll;", "gives 0 rest;", 1, 1);
        String twelve = "gives 0 tap tap tap tap tap tap tap tap tap tap tap tap;"
            + "gives 1 tap tap tap tap tap tap tap tap tap tap tap tap;";
        fixed("order 0 left roll flam;from 0 3;step 0 4;", twelve, 2, 1 << 3 | 1 << 7);
        fixed("order 0 left tap roll flam;from 0 3;step 0 4;", twelve, 2, 1 << 7 | 1 << 11);
        OneDrum x = Check.with("order 1 left tap;", "gives 0 flam;");
        CHECK.due("army 1", x.fix(0, 0, 1, 1, false), 1);
        CHECK.due("army 0", x.fix(0, 0, 0, 1, false), NONE);
        CHECK.due("none such", x.fix(1, 0, 1, 1, false), NONE);
        CHECK.due("none such", x.fix(0, 1, 1, 1, false), NONE);
        CHECK.due("none such", x.fix(0, 0, 2, 1, false), NONE);
        CHECK.due("none such", x.fix(0, 0, -1, 1, true), NONE);
        CHECK.due("none such", x.fix(0, 0, 1, 5, false), NONE);
        CHECK.due("none such", x.fix(0, 0, 1, -1, true), NONE);
        CHECK.due("the row is as it was", x.row(0, 0, 0, 0), 2);
    }
}
