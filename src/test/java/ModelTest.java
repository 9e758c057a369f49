import java.util.ArrayList;
import java.util.List;
import java.util.Random;

/** All promises: texts and calls by a fixed seed, answered by the class as by the model. */
public final class ModelTest {
    private static final int NONE = OneDrum.NONE;
    private static final Check CHECK = new Check();
    private static final Random RANDOM = new Random(20261118);

    private final String[] texts = new String[4];
    private OneDrum x = new OneDrum();
    private Model.War war;
    private String[] score;
    private List<List<Integer>> hearing;
    private List<Model.Village> villages;
    private String told = "";

    public static void main(String[] args) {
        for (int run = 0; run < 4000; run++) {
            readAny();
        }
        for (int run = 0; run < 400; run++) {
            new ModelTest().answers(run % 8 == 0);
        }
        for (int run = 0; run < 300; run++) {
            uniqueByAllRows();
        }
        CHECK.finish();
    }

    // texts

    static int below(int n) {
        return RANDOM.nextInt(n);
    }

    private static String beat() {
        return Model.BEATS.get(below(4));
    }

    private static String beats(int most) {
        StringBuilder out = new StringBuilder();
        for (int i = 1 + below(most); i > 0; i--) {
            out.append(' ').append(beat());
        }
        return out.toString();
    }

    private static String moves(int most) {
        StringBuilder out = new StringBuilder();
        for (int i = below(most + 1); i > 0; i--) {
            out.append(' ').append(Model.MOVES.get(below(5)));
        }
        return out.toString();
    }

    private static String warLine(int slack) {
        int army = below(2 + slack);
        switch (below(9)) {
            case 0: return "turn " + (1 - slack + below(4 + 2 * slack)) + ";";
            case 1: return "tired " + below(10 + slack) + ";";
            case 2: return "echo " + below(4 + 7 * slack) + ";";
            case 3: return "wet " + beat() + " " + beat() + ";";
            case 4: return "from " + army + " " + below(4 + slack) + ";";
            case 5: return "step " + army + " " + (1 - slack + below(4 + 2 * slack)) + ";";
            case 6: return "lag " + army + " " + below(4 + slack) + ";";
            case 7: return "place " + army + " " + below(21 + slack) + ";";
            default: return order(army, 4 + slack);
        }
    }

    private static String order(int army, int most) {
        return "order " + army + " " + Model.MOVES.get(below(5)) + beats(most) + ";";
    }

    private static String villageLine(int own, int slack) {
        int parent = below(3) == 0 || own == 0 ? 8 : below(own);
        if (slack > 0 && below(6) == 0) {
            parent = below(12);
        }
        switch (below(4)) {
            case 0: return "drop " + parent + " " + (1 - slack + below(9 + 2 * slack)) + ";";
            case 1:
                int first = below(4);
                int second = slack > 0 ? below(4) : (first + 1 + below(3)) % 4;
                return "swap " + parent + " " + Model.BEATS.get(first) + " " + Model.BEATS.get(second) + ";";
            case 2: return "twice " + parent + " " + beat() + ";";
            default: return "last " + parent + ";";
        }
    }

    private static String line(int sort, int number, int slack) {
        switch (sort) {
            case 0: return warLine(slack);
            case 1: return "gives " + below(2 + (slack > 0 ? below(2) : 0)) + beats(4) + ";";
            case 2: return "made " + below(2 + slack) + moves(5 + 3 * slack) + ";";
            default: return villageLine(number, slack);
        }
    }

    static String spoiled(String text) {
        StringBuilder out = new StringBuilder(text);
        String signs = " \n;0123az\t" + (char) 200 + "A";
        for (int i = below(3); i >= 0; i--) {
            int at = below(out.length() + 1);
            int how = below(4);
            if (how == 0) {
                out.insert(at, signs.charAt(below(signs.length())));
            } else if (how == 1 && at < out.length()) {
                out.deleteCharAt(at);
            } else if (how == 2 && at < out.length()) {
                out.setCharAt(at, signs.charAt(below(signs.length())));
            } else if (how == 3 && below(4) == 0) {
                out.setLength(at);
            }
        }
        return out.toString();
    }

    static String anyText(int sort, int lines, int slack) {
        StringBuilder out = new StringBuilder();
        for (int i = 0; i < lines; i++) {
            String next = line(sort, i, slack);
            if (out.length() + next.length() < 590) {
                out.append(next);
            }
        }
        return out.toString();
    }

    private static void readAny() {
        int sort = below(4);
        String text = anyText(sort, below(below(3) == 0 ? 25 : 6), below(2));
        if (below(2) == 0) {
            text = spoiled(text);
        }
        Model.Parsed due = Model.parse(text, sort);
        OneDrum x = new OneDrum();
        CHECK.due("text " + text, Check.text(x, sort, NONE, text), due.fault == null ? 0 : NONE);
        CHECK.due("fault of " + text, x.fault(0), due.fault == null ? 0 : due.fault.kind());
        CHECK.due("place in " + text, x.fault(1), due.fault == null ? NONE : due.fault.place());
    }

    // answers

    private void answers(boolean dear) {
        tellAll();
        anew();
        asTold();
        played();
        marched();
        searched(dear);
        anew();
        coded();
        repeated();
        drawn();
    }

    /** A new object that is told the same: behind its 512th call an object's answers are free. */
    private void anew() {
        x = new OneDrum();
        for (int sort = 0; sort < 4; sort++) {
            due("text", Check.text(x, sort, NONE, texts[sort]), 0);
        }
    }

    private void due(String call, long got, long want) {
        CHECK.due(told + " " + call, got, want);
    }

    private String tellOne(int sort, String text) {
        texts[sort] = text;
        told += text + " | ";
        return text;
    }

    private void tellAll() {
        StringBuilder text = new StringBuilder(anyText(0, below(6), 0));
        text.setLength(text.indexOf("order") < 0 ? text.length() : text.indexOf("order"));
        for (int army = 0; army < 2; army++) {
            int most = 1 + below(4);
            for (int k = below(7); k > 0; k--) {
                text.append(order(army, most));
            }
        }
        war = Model.parse(tellOne(0, text.toString()), 0).war;
        String gave = "";
        for (int giver = 0; giver < 2; giver++) {
            gave += below(6) == 0 ? "" : "gives " + giver + beats(below(3) == 0 ? 12 : 6) + ";";
        }
        score = Model.parse(tellOne(1, gave), 1).score;
        villages = Model.parse(tellOne(3, anyText(3, below(9), 0)), 3).villages;
        tellHearing();
    }

    /** Mostly what could have been heard: something random is hardly ever explained. */
    private void tellHearing() {
        StringBuilder truth = new StringBuilder(Model.row(war, score[0], score[1]).beats());
        for (int i = 0; i < truth.length(); i++) {
            if (below(4) == 0) {
                truth.setCharAt(i, '0');
            }
        }
        StringBuilder text = new StringBuilder();
        for (int army = 0; army < 2; army++) {
            List<Integer> moves = Model.moves(war, army, truth.toString());
            if (below(3) > 0) {
                text.append("made ").append(army);
                for (int k = 0; k < Math.min(6, moves.size()); k++) {
                    text.append(' ').append(Model.MOVES.get(moves.get(k)));
                }
                text.append(';');
            }
        }
        hearing = Model.parse(tellOne(2, text.toString()), 2).hearing;
    }

    private Model.Row row() {
        return Model.row(war, score[0], score[1]);
    }

    private void asTold() {
        for (int army = 0; army < 2; army++) {
            due("orders", x.war(0, 60 + army), war.orders.get(army).size());
            due("from", x.war(0, 20 + army), war.from(army));
            due("step", x.war(0, 30 + army), war.step(army));
            due("lag", x.war(0, 40 + army), war.get("lag" + army, 0));
            due("place", x.war(0, 50 + army), war.get("place" + army, 10 * army));
            for (int k = 0; k < 6; k++) {
                List<Model.Order> orders = war.orders.get(army);
                Model.Order order = k < orders.size() ? orders.get(k) : null;
                due("move", x.order(0, army, k, 0), order == null ? NONE : order.move());
                due("length", x.order(0, army, k, 1), order == null ? NONE : order.beats().length());
                for (int i = 0; i < 5; i++) {
                    due("beat", x.order(0, army, k, 10 + i), order == null ? NONE : at(order.beats(), i, NONE));
                }
            }
            for (int k = 0; k < 13; k++) {
                due("given", x.given(0, army, k), at(score[army], k, NONE));
            }
            List<Integer> moves = hearing.get(army);
            due("told", x.told(0, army, NONE), moves == null ? NONE : moves.size());
            for (int k = 0; k < 7; k++) {
                due("told", x.told(0, army, k), moves == null || k >= moves.size() ? -2 : moves.get(k));
            }
        }
    }

    private static int at(String row, int k, int none) {
        return k >= 0 && k < row.length() ? row.charAt(k) - '0' : none;
    }

    private void played() {
        anew();
        Model.Row row = row();
        Model.Played played = Model.play(war, row.beats());
        int length = row.beats().length();
        due("row", x.row(0, 0, NONE, 0), length);
        for (int k = 0; k <= length; k++) {
            due("row 0", x.row(0, 0, k, 0), at(row.beats(), k, -2));
            due("row 1", x.row(0, 0, k, 1), at(row.givers(), k, -2));
            due("row 2", x.row(0, 0, k, 2), at(played.beats(), k, -2));
            due("row 3", x.row(0, 0, k, 3), k == length ? -2 : played.echoes().charAt(k) == 'y' ? 1 : 0);
        }
        for (int army = 0; army < 2; army++) {
            anew();
            made(army, row, played);
        }
        int[] common = Model.common(Model.heard(war, 0, played.beats()), Model.heard(war, 1, played.beats()));
        due("common", x.common(0, 0, 0), common[0]);
        due("common from", x.common(0, 0, 1), common[1]);
        due("period", x.common(0, 0, 2), Model.period(played.beats()));
    }

    private void made(int army, Model.Row row, Model.Played played) {
        String heard = Model.heard(war, army, played.beats());
        due("heard", x.heard(0, 0, army, NONE), heard.length());
        for (int k = 0; k <= heard.length(); k++) {
            due("heard", x.heard(0, 0, army, k), at(heard, k, NONE));
        }
        List<Model.Made> made = Model.made(war, army, heard);
        int danced = heard.length();
        int echoed = 0;
        for (int k = 0; k < made.size(); k++) {
            Model.Made m = made.get(k);
            int length = war.orders.get(army).get(m.order()).beats().length();
            danced -= length;
            int own = 0;
            int echoes = 0;
            for (int i = m.at(); i < m.at() + length; i++) {
                int place = war.from(army) + i * war.step(army);
                own += row.givers().charAt(place) == '0' + army ? 1 : 0;
                echoes += played.echoes().charAt(place) == 'y' ? 1 : 0;
            }
            echoed += echoes > 0 ? 1 : 0;
            due("made 0", x.made(0, 0, army, k, 0), m.move());
            due("made 1", x.made(0, 0, army, k, 1), war.from(army) + m.at() * war.step(army));
            due("made 2", x.made(0, 0, army, k, 2), m.order());
            due("made 3", x.made(0, 0, army, k, 3), own == length ? 0 : own == 0 ? 2 : 1);
        }
        due("made", x.made(0, 0, army, NONE, 0), made.size());
        due("danced", x.made(0, 0, army, NONE, 1), danced);
        due("echoed", x.made(0, 0, army, NONE, 2), echoed);
        due("readings", x.readings(0, 0, army, false), Model.readings(war.orders.get(army), heard, false));
        due("few", x.readings(0, 0, army, true), Model.readings(war.orders.get(army), heard, true));
    }

    private void marched() {
        int[][] at = Model.march(war, row().beats());
        for (int army = 0; army < 2; army++) {
            for (int t = 0; t <= 24; t++) {
                due("march", x.march(0, 0, army, t), at[army][t]);
            }
        }
        due("meets", x.meets(0, 0), Model.meets(war, row().beats()));
    }

    private static int first(List<Integer> all) {
        return all.isEmpty() ? NONE : all.get(0);
    }

    private void searched(boolean dear) {
        String row = row().beats();
        int army = below(2);
        int move = below(5);
        for (int n = 0; n <= (dear ? 3 : 2); n++) {
            List<Integer> forcing = Model.forcing(war, army, move, n);
            due("force " + army + move + n, x.force(0, army, move, n, false), first(forcing));
            due("hold " + army + move + n, x.force(0, army, move, n, true), forcing.size());
        }
        if (row.length() <= 12) {
            List<Integer> bribes = Model.bribes(war, row, hearing);
            int which = Model.fewestBits(bribes);
            due("bribes", x.bribes(0, 0, 0, 0), bribes.size());
            due("fewest", x.bribes(0, 0, 0, 1), which < 0 ? NONE : Integer.bitCount(which));
            due("which", x.bribes(0, 0, 0, 2), which);
        } else {
            due("bribes", x.bribes(0, 0, 0, below(3)), NONE);
        }
        for (int n = 0; n <= (dear ? 5 : 3); n++) {
            List<Integer> meant = new ArrayList<>();
            for (int number = 0; number < 1 << (2 * n); number++) {
                if (Model.asTold(war, Model.row(war, score[0], Model.figures(number, n)).beats(), hearing)) {
                    meant.add(number);
                }
            }
            due("meant " + n, x.meant(0, 0, 0, n, false), meant.size());
            due("meant first " + n, x.meant(0, 0, 0, n, true), first(meant));
        }
        truce(move, below(5));
        if (dear || row.length() < 9) {
            int bits = Model.fix(war, row, army, move);
            due("fix " + army + move, x.fix(0, 0, army, move, true), bits);
            due("fix " + army + move, x.fix(0, 0, army, move, false), bits < 0 ? NONE : Integer.bitCount(bits));
        }
    }

    private void truce(int one, int other) {
        int many = NONE;
        int number = NONE;
        for (int n = 0; n <= 5 && many < 0; n++) {
            List<String> rows = Model.rows(n);
            for (int i = 0; i < rows.size() && many < 0; i++) {
                if (Model.moves(war, 0, rows.get(i)).contains(one) && Model.moves(war, 1, rows.get(i)).contains(other)) {
                    many = n;
                    number = i;
                }
            }
        }
        due("truce " + one + other, x.truce(0, one, other, false), many);
        due("truce row " + one + other, x.truce(0, one, other, true), number);
    }

    private void coded() {
        List<Integer> shared = new ArrayList<>();
        for (int army = 0; army < 2; army++) {
            List<Model.Order> orders = war.orders.get(army);
            int safe = NONE;
            int heads = 0;
            for (int a = 0; a < orders.size(); a++) {
                for (int b = 0; b < orders.size(); b++) {
                    String one = orders.get(a).beats();
                    String other = orders.get(b).beats();
                    int far = Model.far(one, other);
                    due("far", x.far(0, army, a, b), far);
                    if (orders.get(a).move() != orders.get(b).move() && (safe < 0 || far < safe)) {
                        safe = far;
                    }
                    heads += a < b && (one.startsWith(other) || other.startsWith(one)) ? 1 : 0;
                }
            }
            due("safe", x.codes(0, army, 0), safe);
            due("heads", x.codes(0, army, 1), heads);
            int twofold = Model.twofold(orders);
            due("twofold", x.unique(0, army, true), twofold);
            due("unique", x.unique(0, army, false), twofold < 0 ? 1 : 0);
        }
        for (int a = 0; a < war.orders.get(0).size(); a++) {
            for (int b = 0; b < war.orders.get(1).size(); b++) {
                if (war.orders.get(0).get(a).beats().equals(war.orders.get(1).get(b).beats())) {
                    shared.add(6 * a + b);
                }
            }
        }
        due("shared", x.shared(0, NONE), shared.size());
        for (int k = 0; k <= shared.size(); k++) {
            due("shared " + k, x.shared(0, k), k < shared.size() ? shared.get(k) : NONE);
        }
    }

    private void repeated() {
        String played = Model.play(war, row().beats()).beats();
        List<String> versions = new ArrayList<>();
        for (int v = 0; v < villages.size(); v++) {
            versions.add(Model.version(villages, v, played));
        }
        due("villages", x.village(0, NONE, 0), villages.size());
        for (int v = 0; v < villages.size(); v++) {
            String version = versions.get(v);
            anew();
            due("version", x.version(0, 0, 0, v, NONE), version.length());
            for (int k = 0; k <= version.length(); k++) {
                due("version", x.version(0, 0, 0, v, k), at(version, k, NONE));
            }
            int likes = 0;
            for (int other = 0; other < versions.size(); other++) {
                likes |= versions.get(other).equals(version) ? 1 << other : 0;
            }
            due("farness", x.tale(0, 0, 0, v, false), Model.far(version, played));
            due("likes", x.tale(0, 0, 0, v, true), likes);
            int depth = 1;
            for (int p = villages.get(v).parent(); p < 8; p = villages.get(p).parent()) {
                depth++;
            }
            int[] due = {villages.get(v).parent(), villages.get(v).change(), villages.get(v).first(),
                villages.get(v).second(), depth};
            for (int what = 0; what < 5; what++) {
                due("village", x.village(0, v, what), due[what]);
            }
        }
    }

    private void drawn() {
        String row = row().beats();
        int seed = RANDOM.nextInt();
        int n = below(41);
        anew();
        long s = seed;
        int same = 0;
        int met = 0;
        int[][] counts = new int[2][5];
        for (int evening = 0; evening < n; evening++) {
            StringBuilder truth = new StringBuilder(row);
            for (int i = 0; i < row.length(); i++) {
                s = (s * 1103515245L + 12345L) & 0xFFFFFFFFL;
                if ((s >> 16) % 8 == 0) {
                    truth.setCharAt(i, '0');
                }
            }
            List<Integer> zero = Model.moves(war, 0, truth.toString());
            List<Integer> one = Model.moves(war, 1, truth.toString());
            same += zero.equals(one) ? 1 : 0;
            met += Model.meets(war, truth.toString()) >= 0 ? 1 : 0;
            for (int move : zero) {
                counts[0][move]++;
            }
            for (int move : one) {
                counts[1][move]++;
            }
        }
        due("drawn same", x.drawn(0, 0, seed, n, 0), same);
        due("drawn met", x.drawn(0, 0, seed, n, 1), met);
        for (int army = 0; army < 2; army++) {
            for (int move = 0; move < 5; move++) {
                due("drawn", x.drawn(0, 0, seed, n, 10 + 10 * army + move), counts[army][move]);
            }
        }
    }

    /** The shortest row in two ways, found by reading all rows up to six beats. */
    private static void uniqueByAllRows() {
        StringBuilder text = new StringBuilder();
        for (int k = 2 + below(5); k > 0; k--) {
            text.append(order(0, 4));
        }
        List<Model.Order> orders = Model.parse(text.toString(), 0).war.orders.get(0);
        int shortest = NONE;
        for (int n = 1; n <= 6 && shortest < 0; n++) {
            for (String row : Model.rows(n)) {
                if (Model.readings(orders, row, false) > 1) {
                    shortest = n;
                    break;
                }
            }
        }
        int got = Check.with(text.toString(), "").unique(0, 0, true);
        CHECK.due(text + " twofold", got > 6 ? NONE : got, shortest);
    }
}
