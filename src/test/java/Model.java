import java.util.ArrayList;
import java.util.Arrays;
import java.util.HashMap;
import java.util.List;
import java.util.Map;
import java.util.TreeMap;

/** The document once more, written as plainly as lists and texts allow; rows of beats are texts of 0 .. 3. */
final class Model {
    static final List<String> BEATS = List.of("rest", "tap", "flam", "roll");
    static final List<String> MOVES = List.of("halt", "left", "right", "charge", "retreat");

    record Order(int move, String beats) { }

    record Village(int parent, int change, int first, int second) { }

    record Made(int move, int at, int order) { }

    static final class War {
        final Map<String, Integer> set = new HashMap<>();
        final Map<Character, Character> wet = new HashMap<>();
        final List<List<Order>> orders = List.of(new ArrayList<>(), new ArrayList<>());

        int get(String name, int first) {
            return set.getOrDefault(name, first);
        }

        int turn() {
            return get("turn", 1);
        }

        int from(int army) {
            return get("from" + army, 0);
        }

        int step(int army) {
            return get("step" + army, 1);
        }
    }

    record Fault(int kind, int place) { }

    record Token(String text, int place) { }

    /** What a text tells, or its fault. */
    static final class Parsed {
        Fault fault;
        final War war = new War();
        final String[] score = {"", ""};
        final List<List<Integer>> hearing = new ArrayList<>(Arrays.asList(null, null));
        final List<Village> villages = new ArrayList<>();
    }

    static List<Token> tokens(String tape) {
        List<Token> all = new ArrayList<>();
        int at = 0;
        while (at < tape.length()) {
            char c = tape.charAt(at);
            int to = at + 1;
            if (Character.toString(c).matches("[a-z]")) {
                while (to < tape.length() && tape.substring(to, to + 1).matches("[a-z]")) {
                    to++;
                }
            } else if (Character.toString(c).matches("[0-9]")) {
                while (to < tape.length() && tape.substring(to, to + 1).matches("[0-9]")) {
                    to++;
                }
            }
            if (c != 10 && c != 32) {
                all.add(new Token(tape.substring(at, to), at));
            }
            at = to;
        }
        all.add(new Token("", tape.length()));
        return all;
    }

    /** Each line's form: # a number, B a beat, M a move, * none or more of what stands ahead of it. */
    static String form(int sort, String word) {
        switch (sort + word) {
            case "0turn": case "0tired": case "0echo": return "#;";
            case "0wet": return "BB;";
            case "0from": case "0step": case "0lag": case "0place": return "##;";
            case "0order": return "#MBB*;";
            case "1gives": return "#BB*;";
            case "2made": return "#M*;";
            case "3drop": return "##;";
            case "3swap": return "#BB;";
            case "3twice": return "#B;";
            case "3last": return "#;";
            default: return null;
        }
    }

    static boolean fits(char kind, String token) {
        switch (kind) {
            case '#': return token.matches("[0-9]{1,2}");
            case 'B': return BEATS.contains(token);
            case 'M': return MOVES.contains(token);
            default: return token.equals(";");
        }
    }

    static Parsed parse(String tape, int sort) {
        Parsed out = new Parsed();
        List<Token> all = tokens(tape);
        List<List<Token>> lines = new ArrayList<>();
        int at = 0;
        while (!all.get(at).text().isEmpty()) {
            List<Token> line = new ArrayList<>();
            String form = form(sort, all.get(at).text());
            if (form == null) {
                out.fault = new Fault(1, all.get(at).place());
                return out;
            }
            line.add(all.get(at++));
            for (int i = 0; i < form.length(); i++) {
                boolean many = i + 1 < form.length() && form.charAt(i + 1) == '*';
                if (many) {
                    while (fits(form.charAt(i), all.get(at).text())) {
                        line.add(all.get(at++));
                    }
                    i++;
                } else if (fits(form.charAt(i), all.get(at).text())) {
                    line.add(all.get(at++));
                } else {
                    out.fault = new Fault(1, all.get(at).place());
                    return out;
                }
            }
            lines.add(line);
        }
        List<Fault> faults = new ArrayList<>();
        for (List<Token> line : lines) {
            tell(out, line, faults);
        }
        for (Fault f : faults) {
            Fault old = out.fault;
            if (old == null || f.place() < old.place() || f.place() == old.place() && f.kind() < old.kind()) {
                out.fault = f;
            }
        }
        return out;
    }

    private static int number(Token token, int least, int most, List<Fault> faults) {
        int n = Integer.parseInt(token.text());
        if (n < least || n > most) {
            faults.add(new Fault(2, token.place()));
            return -1;
        }
        return n;
    }

    private static int beat(Token token) {
        return BEATS.indexOf(token.text());
    }

    private static void tell(Parsed out, List<Token> line, List<Fault> faults) {
        String word = line.get(0).text();
        switch (word) {
            case "turn":
                out.war.set.put(word, number(line.get(1), 1, 4, faults));
                break;
            case "tired": case "echo":
                out.war.set.put(word, number(line.get(1), 0, 9, faults));
                break;
            case "wet":
                out.war.wet.put((char) ('0' + beat(line.get(1))), (char) ('0' + beat(line.get(2))));
                break;
            case "from": case "lag":
                out.war.set.put(word + number(line.get(1), 0, 1, faults), number(line.get(2), 0, 3, faults));
                break;
            case "step":
                out.war.set.put(word + number(line.get(1), 0, 1, faults), number(line.get(2), 1, 4, faults));
                break;
            case "place":
                out.war.set.put(word + number(line.get(1), 0, 1, faults), number(line.get(2), 0, 20, faults));
                break;
            case "order":
                tellOrder(out, line, faults);
                break;
            case "gives":
                int giver = number(line.get(1), 0, 1, faults);
                for (Token t : line.subList(2, line.size() - 1)) {
                    if (giver >= 0) {
                        out.score[giver] += beat(t);
                        if (out.score[giver].length() > 12) {
                            faults.add(new Fault(3, t.place()));
                        }
                    }
                }
                break;
            case "made":
                int told = number(line.get(1), 0, 1, faults);
                List<Integer> moves = new ArrayList<>();
                for (Token t : line.subList(2, line.size() - 1)) {
                    moves.add(MOVES.indexOf(t.text()));
                    if (moves.size() > 6) {
                        faults.add(new Fault(3, t.place()));
                    }
                }
                if (told >= 0) {
                    out.hearing.set(told, moves);
                }
                break;
            default:
                tellVillage(out, line, faults);
                break;
        }
    }

    private static void tellOrder(Parsed out, List<Token> line, List<Fault> faults) {
        int army = number(line.get(1), 0, 1, faults);
        StringBuilder beats = new StringBuilder();
        for (Token t : line.subList(3, line.size() - 1)) {
            beats.append(beat(t));
            if (beats.length() > 4) {
                faults.add(new Fault(3, t.place()));
            }
        }
        if (army >= 0) {
            out.war.orders.get(army).add(new Order(MOVES.indexOf(line.get(2).text()), beats.toString()));
            if (out.war.orders.get(army).size() > 6) {
                faults.add(new Fault(3, line.get(0).place()));
            }
        }
    }

    private static void tellVillage(Parsed out, List<Token> line, List<Fault> faults) {
        int change = List.of("drop", "swap", "twice", "last").indexOf(line.get(0).text());
        int own = out.villages.size();
        int parent = Integer.parseInt(line.get(1).text());
        if (parent > 8 || parent < 8 && parent >= own) {
            faults.add(new Fault(2, line.get(1).place()));
        }
        int first = -1;
        int second = -1;
        if (change == 0) {
            first = number(line.get(2), 1, 9, faults);
        } else if (change < 3) {
            first = beat(line.get(2));
        }
        if (change == 1) {
            second = beat(line.get(3));
            if (first == second) {
                faults.add(new Fault(4, line.get(3).place()));
            }
        }
        out.villages.add(new Village(parent, change, first, second));
        if (own >= 8) {
            faults.add(new Fault(3, line.get(0).place()));
        }
    }

    // what is played

    record Row(String beats, String givers) { }

    record Played(String beats, String echoes) { }

    static Row row(War war, String zero, String one) {
        List<String> left = new ArrayList<>(List.of(zero, one));
        StringBuilder beats = new StringBuilder();
        StringBuilder givers = new StringBuilder();
        int who = 0;
        while (!left.get(0).isEmpty() || !left.get(1).isEmpty()) {
            int many = Math.min(war.turn(), left.get(who).length());
            beats.append(left.get(who), 0, many);
            givers.append(Integer.toString(who).repeat(many));
            left.set(who, left.get(who).substring(many));
            who = 1 - who;
        }
        return new Row(beats.toString(), givers.toString());
    }

    static Played play(War war, String row) {
        int tired = war.get("tired", 0);
        int echo = war.get("echo", 0);
        StringBuilder sounds = new StringBuilder();
        for (int place = 1; place <= row.length(); place++) {
            char c = tired != 0 && place % tired == 0 ? '0' : row.charAt(place - 1);
            sounds.append(war.wet.getOrDefault(c, c));
        }
        StringBuilder beats = new StringBuilder(sounds);
        StringBuilder echoes = new StringBuilder("n".repeat(row.length()));
        for (int i = 0; i < row.length(); i++) {
            int to = i + echo;
            if (echo != 0 && sounds.charAt(i) == '2' && to < row.length() && sounds.charAt(to) == '0') {
                beats.setCharAt(to, '1');
                echoes.setCharAt(to, 'y');
            }
        }
        return new Played(beats.toString(), echoes.toString());
    }

    static String heard(War war, int army, String played) {
        StringBuilder out = new StringBuilder();
        for (int i = 0; i < played.length(); i++) {
            int behind = i - war.from(army);
            if (behind >= 0 && behind % war.step(army) == 0) {
                out.append(played.charAt(i));
            }
        }
        return out.toString();
    }

    static List<Made> made(War war, int army, String heard) {
        List<Made> out = new ArrayList<>();
        List<Order> orders = war.orders.get(army);
        int at = 0;
        while (at < heard.length()) {
            int best = -1;
            for (int length = 4; length >= 1 && best < 0; length--) {
                for (int k = 0; k < orders.size() && best < 0; k++) {
                    String beats = orders.get(k).beats();
                    best = beats.length() == length && heard.startsWith(beats, at) ? k : -1;
                }
            }
            if (best >= 0) {
                out.add(new Made(orders.get(best).move(), at, best));
                at += orders.get(best).beats().length();
            } else {
                at++;
            }
        }
        return out;
    }

    static List<Integer> moves(War war, int army, String row) {
        List<Integer> out = new ArrayList<>();
        for (Made m : made(war, army, heard(war, army, play(war, row).beats()))) {
            out.add(m.move());
        }
        return out;
    }

    static int[][] march(War war, String row) {
        int[][] at = new int[2][25];
        at[0][0] = war.get("place0", 0);
        at[1][0] = war.get("place1", 10);
        for (int t = 1; t <= 24; t++) {
            for (int army = 0; army < 2; army++) {
                List<Integer> moves = moves(war, army, row);
                int k = t - 1 - war.get("lag" + army, 0);
                int move = k >= 0 && k < moves.size() ? moves.get(k) : 0;
                int own = at[army][t - 1];
                int other = at[1 - army][t - 1];
                int by = 0;
                if (move == 1) {
                    by = -1;
                } else if (move == 2) {
                    by = 1;
                } else if (move == 3) {
                    by = other > own ? 2 : other < own ? -2 : 0;
                } else if (move == 4) {
                    by = other > own ? -2 : other < own ? 2 : army == 0 ? -2 : 2;
                }
                at[army][t] = own + by;
            }
        }
        return at;
    }

    static int meets(War war, String row) {
        int[][] at = march(war, row);
        for (int t = 0; t <= 24; t++) {
            if (at[0][t] == at[1][t] || t > 0 && (at[0][t] < at[1][t]) != (at[0][t - 1] < at[1][t - 1])) {
                return t;
            }
        }
        return -1;
    }

    static String figures(int number, int n) {
        String digits = n == 0 ? "" : Integer.toString(number, 4);
        return "0".repeat(n - digits.length()) + digits;
    }

    static List<String> rows(int n) {
        List<String> all = new ArrayList<>();
        for (int i = 0; i < Math.pow(4, n); i++) {
            all.add(figures(i, n));
        }
        return all;
    }

    static List<Integer> forcing(War war, int army, int move, int n) {
        List<Integer> out = new ArrayList<>();
        List<String> all = rows(n);
        for (int i = 0; i < all.size(); i++) {
            boolean holds = true;
            for (int j = 0; j < all.size() && holds; j++) {
                String own = all.get(i);
                String other = all.get(j);
                Row row = army == 0 ? row(war, own, other) : row(war, other, own);
                holds = moves(war, army, row.beats()).contains(move);
            }
            if (holds) {
                out.add(i);
            }
        }
        return out;
    }

    static boolean asTold(War war, String row, List<List<Integer>> hearing) {
        for (int army = 0; army < 2; army++) {
            if (hearing.get(army) != null && !hearing.get(army).equals(moves(war, army, row))) {
                return false;
            }
        }
        return true;
    }

    static List<Integer> bribes(War war, String row, List<List<Integer>> hearing) {
        List<Integer> out = new ArrayList<>();
        for (int bits = 0; bits < 1 << row.length(); bits++) {
            StringBuilder truth = new StringBuilder(row);
            boolean may = true;
            for (int i = 0; i < row.length(); i++) {
                if ((bits >> i & 1) == 1) {
                    may &= row.charAt(i) != '0';
                    truth.setCharAt(i, '0');
                }
            }
            if (may && asTold(war, truth.toString(), hearing)) {
                out.add(bits);
            }
        }
        return out;
    }

    static int fewestBits(List<Integer> all) {
        int best = -1;
        for (int bits : all) {
            if (best < 0 || Integer.bitCount(bits) < Integer.bitCount(best)
                || Integer.bitCount(bits) == Integer.bitCount(best) && bits < best) {
                best = bits;
            }
        }
        return best;
    }

    static int far(String a, String b) {
        if (a.isEmpty() || b.isEmpty()) {
            return a.length() + b.length();
        }
        int[][] d = new int[a.length() + 1][b.length() + 1];
        for (int i = 0; i <= a.length(); i++) {
            for (int j = 0; j <= b.length(); j++) {
                if (i == 0 || j == 0) {
                    d[i][j] = i + j;
                } else {
                    int same = a.charAt(i - 1) == b.charAt(j - 1) ? 0 : 1;
                    d[i][j] = Math.min(d[i - 1][j - 1] + same, Math.min(d[i - 1][j], d[i][j - 1]) + 1);
                }
            }
        }
        return d[a.length()][b.length()];
    }

    static String version(List<Village> villages, int v, String played) {
        Village village = villages.get(v);
        String base = village.parent() == 8 ? played : version(villages, village.parent(), played);
        StringBuilder out = new StringBuilder();
        char first = (char) ('0' + village.first());
        char second = (char) ('0' + village.second());
        switch (village.change()) {
            case 0:
                for (int i = 1; i <= base.length(); i++) {
                    out.append(i % village.first() == 0 ? "" : base.substring(i - 1, i));
                }
                return out.toString();
            case 1:
                return base.replace(first, 'x').replace(second, first).replace('x', second);
            case 2:
                String twice = base.replace("" + first, "" + first + first);
                return twice.length() > 60 ? twice.substring(0, 60) : twice;
            default:
                return base.isEmpty() ? "" : base.substring(0, base.length() - 1);
        }
    }

    static int[] common(String a, String b) {
        for (int n = a.length(); n > 0; n--) {
            for (int i = 0; i + n <= a.length(); i++) {
                if (b.contains(a.substring(i, i + n))) {
                    return new int[] {n, i};
                }
            }
        }
        return new int[] {0, 0};
    }

    static int period(String played) {
        for (int n = 1; n <= played.length(); n++) {
            if (played.startsWith(played.substring(n))) {
                return n;
            }
        }
        return 0;
    }

    static long readings(List<Order> orders, String heard, boolean few) {
        long[] ways = new long[heard.length() + 1];
        long[] fewest = new long[heard.length() + 1];
        ways[heard.length()] = 1;
        for (int i = heard.length() - 1; i >= 0; i--) {
            fewest[i] = -1;
            for (Order order : orders) {
                int to = i + order.beats().length();
                if (heard.startsWith(order.beats(), i) && ways[to] > 0) {
                    ways[i] += ways[to];
                    fewest[i] = fewest[i] < 0 ? fewest[to] + 1 : Math.min(fewest[i], fewest[to] + 1);
                }
            }
        }
        return few ? fewest[0] : ways[0];
    }

    /** The shortest row in two ways, by what one reading has ahead of the other, shortest first. */
    static int twofold(List<Order> orders) {
        TreeMap<Integer, List<String>> open = new TreeMap<>();
        Map<String, Integer> seen = new HashMap<>();
        for (int i = 0; i < orders.size(); i++) {
            for (int j = 0; j < orders.size(); j++) {
                String a = orders.get(i).beats();
                String b = orders.get(j).beats();
                if (i != j && a.startsWith(b)) {
                    open.computeIfAbsent(a.length(), n -> new ArrayList<>()).add(a.substring(b.length()));
                }
            }
        }
        while (!open.isEmpty()) {
            int length = open.firstKey();
            List<String> rests = open.get(length);
            if (rests.isEmpty()) {
                open.remove(length);
                continue;
            }
            String rest = rests.remove(rests.size() - 1);
            if (rest.isEmpty()) {
                return length;
            }
            if (seen.putIfAbsent(rest, length) != null) {
                continue;
            }
            for (Order order : orders) {
                String beats = order.beats();
                if (rest.startsWith(beats)) {
                    rests.add(rest.substring(beats.length()));
                } else if (beats.startsWith(rest)) {
                    String more = beats.substring(rest.length());
                    open.computeIfAbsent(length + more.length(), n -> new ArrayList<>()).add(more);
                }
            }
        }
        return -1;
    }

    static int fix(War war, String row, int army, int move) {
        List<Integer> found = new ArrayList<>();
        int n = row.length();
        for (int i = 0; i < n; i++) {
            for (int j = i; j < n; j++) {
                for (int change = 0; change < 16; change++) {
                    StringBuilder other = new StringBuilder(row);
                    other.setCharAt(i, (char) ('0' + change % 4));
                    other.setCharAt(j, (char) ('0' + change / 4));
                    if (moves(war, army, other.toString()).contains(move)) {
                        int bits = 0;
                        for (int k = 0; k < n; k++) {
                            bits |= other.charAt(k) == row.charAt(k) ? 0 : 1 << k;
                        }
                        found.add(bits);
                    }
                }
            }
        }
        return fewestBits(found);
    }
}
