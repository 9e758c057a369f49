import java.nio.charset.StandardCharsets;
import java.util.ArrayList;
import java.util.List;

/** Promises 1 to 8, 15, 22, 30 to 32: long runs of calls on one object, its state told by a model beside it. */
public final class WalkTest {
    private static final int NONE = OneDrum.NONE;
    private static final int CALLS = 512;
    private static final Check CHECK = new Check();

    /** All that is told; each change makes a new one, so that an image is just a reference. */
    private record State(String tape, Model.Fault fault, List<List<Model.Parsed>> texts) {
        int count(int sort) {
            return texts.get(sort).size();
        }
    }

    private final OneDrum x = new OneDrum();
    private final State[] images = new State[3];
    private final StringBuilder calls = new StringBuilder();
    private State now = new State("", null, List.of(List.of(), List.of(), List.of(), List.of()));
    private int made = 0;

    public static void main(String[] args) {
        for (int run = 0; run < 150; run++) {
            new WalkTest().walk();
        }
        CHECK.finish();
    }

    private static int below(int n) {
        return ModelTest.below(n);
    }

    private void due(String call, long got, long want) {
        made++;
        calls.append(call).append(' ');
        CHECK.due(calls.length() > 400 ? ".. " + calls.substring(calls.length() - 400) : calls.toString(), got, want);
    }

    private void walk() {
        while (made < CALLS - 60) {
            switch (below(8)) {
                case 0: case 1: feedText(); break;
                case 2: case 3: case 4: text(); break;
                case 5: end(below(3) == 0 ? below(24) - 2 : now.tape.length()); break;
                case 6: image(); break;
                default: again(); break;
            }
            look();
        }
    }

    private void feedText() {
        String text = ModelTest.anyText(below(4), below(4), below(6) == 0 ? 1 : 0);
        if (below(8) == 0) {
            text = ModelTest.spoiled(text);
        }
        if (below(2) == 0) {
            end(0);
        }
        int behind = now.tape.length();
        for (int from = 0; from < text.length(); from += 20) {
            feed(text.substring(from, Math.min(from + 20, text.length())));
        }
        if (below(8) > 0) {
            end(behind + text.length());
        }
    }

    private void feed(String part) {
        StringBuilder twenty = new StringBuilder(part);
        while (twenty.length() < 20) {
            twenty.append((char) 0);
        }
        boolean fits = now.tape.length() <= 580;
        if (fits) {
            now = new State(now.tape + twenty, now.fault, now.texts);
        }
        int[] five = new int[5];
        byte[] bytes = twenty.toString().getBytes(StandardCharsets.ISO_8859_1);
        for (int i = 0; i < 20; i++) {
            five[i / 4] = five[i / 4] << 8 | bytes[i] & 255;
        }
        due("feed '" + part + "'", x.feed(five[0], five[1], five[2], five[3], five[4]), fits ? now.tape.length() : NONE);
    }

    private void end(int n) {
        boolean has = n >= 0 && n <= now.tape.length();
        if (has) {
            now = new State(now.tape.substring(0, n), now.fault, now.texts);
        }
        due("end(" + n + ")", x.end(n), has ? n : NONE);
    }

    private void text() {
        int sort = below(6) - 1;
        for (int guess = 0; guess < 4 && below(3) > 0; guess++) {
            if (Model.parse(now.tape, guess).fault == null) {
                sort = guess;
            }
        }
        int at = below(2) == 0 ? NONE : below(5) - 2;
        due("text(" + sort + ", " + at + ")", x.text(sort, at), taken(sort, at));
    }

    private int taken(int sort, int at) {
        String tape = now.tape;
        now = new State("", null, now.texts);
        if (sort < 0 || sort > 3 || at < NONE || (at == NONE ? now.count(sort) > 1 : at >= now.count(sort))) {
            return -2;
        }
        Model.Parsed parsed = Model.parse(tape, sort);
        if (parsed.fault != null) {
            now = new State("", parsed.fault, now.texts);
            return NONE;
        }
        int slot = at == NONE ? now.count(sort) : at;
        List<List<Model.Parsed>> texts = new ArrayList<>(now.texts);
        List<Model.Parsed> ofSort = new ArrayList<>(texts.get(sort));
        if (at == NONE) {
            ofSort.add(parsed);
        } else {
            ofSort.set(at, parsed);
        }
        texts.set(sort, ofSort);
        now = new State("", null, texts);
        return slot;
    }

    private void image() {
        int k = below(5) - 1;
        boolean may = k >= 0 && k < 3;
        if (may) {
            images[k] = now;
        }
        due("image(" + k + ")", x.image(k) ? 1 : 0, may ? 1 : 0);
    }

    private void again() {
        int k = below(5) - 1;
        boolean may = k >= 0 && k < 3 && images[k] != null;
        if (may) {
            now = images[k];
        }
        due("again(" + k + ")", x.again(k) ? 1 : 0, may ? 1 : 0);
    }

    private void look() {
        due("fault(0)", x.fault(0), now.fault == null ? 0 : now.fault.kind());
        due("fault(1)", x.fault(1), now.fault == null ? NONE : now.fault.place());
        int sort = below(4);
        int k = below(2);
        boolean isThere = k < now.count(sort);
        Model.Parsed text = isThere ? now.texts.get(sort).get(k) : null;
        due("count(" + sort + ")", x.count(sort), now.count(sort));
        int army = below(2);
        switch (sort) {
            case 0:
                due("war(" + k + ", " + (20 + army) + ")", x.war(k, 20 + army), isThere ? text.war.from(army) : NONE);
                due("war(" + k + ", " + (30 + army) + ")", x.war(k, 30 + army), isThere ? text.war.step(army) : NONE);
                break;
            case 1:
                due("given(" + k + ", " + army + ")", x.given(k, army, NONE), isThere ? text.score[army].length() : NONE);
                break;
            case 2:
                List<Integer> moves = isThere ? text.hearing.get(army) : null;
                due("told(" + k + ", " + army + ")", x.told(k, army, NONE),
                        !isThere ? -2 : moves == null ? NONE : moves.size());
                break;
            default:
                due("village(" + k + ")", x.village(k, NONE, 0), isThere ? text.villages.size() : -2);
                break;
        }
    }
}
