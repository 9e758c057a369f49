/** One drum for two armies: what is told of it as texts, and what follows from that. */
public final class OneDrum {
    public static final int NONE = -1;

    private static final int NO_SUCH = -2;
    private static final int NO_PLACE = -1000;

    private static final int REST = 0;
    private static final int TAP = 1;
    private static final int FLAM = 2;
    private static final int BEAT_KINDS = 4;

    private static final int HALT = 0;
    private static final int LEFT = 1;
    private static final int RIGHT = 2;
    private static final int CHARGE = 3;
    private static final int RETREAT = 4;
    private static final int MOVE_KINDS = 5;

    private static final int ARMIES = 2;
    private static final int ORDERS_MOST = 6;
    private static final int ORDER_BEATS_MOST = 4;
    private static final int SCORE_BEATS_MOST = 12;
    private static final int ROW_MOST = 24;
    private static final int MOVES_TOLD_MOST = 6;
    private static final int VILLAGES_MOST = 8;
    private static final int THE_DRUM = 8;
    private static final int VERSION_MOST = 60;
    private static final int TAPE_MOST = 600;
    private static final int STEPS = 24;

    private static final int DROP = 0;
    private static final int SWAP = 1;
    private static final int TWICE = 2;
    private static final int LAST = 3;

    private static final int WARS = 0;
    private static final int SCORES = 1;
    private static final int HEARINGS = 2;
    private static final int VILLAGE_ROWS = 3;
    private static final int SORTS = 4;
    private static final int OF_A_SORT_MOST = 2;

    private static final int FEED_BYTES = 20;
    private static final int IMAGES = 3;
    private static final int FORCE_MOST = 3;
    private static final int BRIBED_ROW_MOST = 12;
    private static final int MEANT_MOST = 5;
    private static final int TRUCE_MOST = 5;
    private static final int TRUCE_SHIFT = 10;
    private static final int EVENINGS_MOST = 40;
    private static final int WIND_ONE_IN = 8;

    private final Told now = new Told();
    private final Told[] images = new Told[IMAGES];
    private final boolean[] imageTaken = new boolean[IMAGES];
    private final Reader reader = new Reader();
    private final Score guess = new Score();
    private final Drum drum = new Drum();
    private final Ear[] ears = new Ear[ARMIES];
    private final Field field = new Field();
    private final Tales tales = new Tales();
    private final Codes codeBook = new Codes();
    private final int[] moveCounts = new int[ARMIES * MOVE_KINDS];

    public OneDrum() {
        for (int k = 0; k < IMAGES; k++) {
            images[k] = new Told();
        }
        for (int army = 0; army < ARMIES; army++) {
            ears[army] = new Ear();
        }
    }

    public int feed(int a, int b, int c, int d, int e) {
        if (now.tapeLength + FEED_BYTES > TAPE_MOST) {
            return NONE;
        }
        now.push(a);
        now.push(b);
        now.push(c);
        now.push(d);
        now.push(e);
        return now.tapeLength;
    }

    public int end(int n) {
        if (n < 0 || n > now.tapeLength) {
            return NONE;
        }
        now.tapeLength = n;
        return n;
    }

    public int text(int sort, int at) {
        // The tape is taken whatever is answered, also where no text is read.
        int length = now.tapeLength;
        now.tapeLength = 0;
        now.faultKind = 0;
        now.faultPlace = NONE;
        if (!isSort(sort) || !mayStandAt(sort, at)) {
            return NO_SUCH;
        }
        reader.read(now.tape, length, sort);
        if (reader.faultKind != 0) {
            now.faultKind = reader.faultKind;
            now.faultPlace = reader.faultPlace;
            return NONE;
        }
        return keepText(sort, at);
    }

    private static boolean isSort(int sort) {
        return sort >= 0 && sort < SORTS;
    }

    private boolean mayStandAt(int sort, int at) {
        int many = now.counts[sort];
        return at == NONE ? many < OF_A_SORT_MOST : at >= 0 && at < many;
    }

    private int keepText(int sort, int at) {
        int slot = at;
        if (at == NONE) {
            slot = now.counts[sort];
            now.counts[sort] = slot + 1;
        }
        switch (sort) {
            case WARS:
                now.wars[slot].copyFrom(reader.war);
                break;
            case SCORES:
                now.scores[slot].copyFrom(reader.score);
                break;
            case HEARINGS:
                now.hearings[slot].copyFrom(reader.hearing);
                break;
            default:
                now.villages[slot].copyFrom(reader.villages);
                break;
        }
        return slot;
    }

    public int fault(int what) {
        if (what == 0) {
            return now.faultKind;
        }
        return what == 1 ? now.faultPlace : NONE;
    }

    public int war(int war, int what) {
        War w = warAt(war);
        if (w == null) {
            return NONE;
        }
        if (what == 0) {
            return w.turn;
        }
        if (what == 1) {
            return w.tired;
        }
        if (what == 2) {
            return w.echo;
        }
        if (what >= 10 && what < 10 + BEAT_KINDS) {
            return w.wet[what - 10];
        }
        return what >= 20 && isArmy(what % 10) ? ofArmy(w, what / 10, what % 10) : NONE;
    }

    private static int ofArmy(War w, int what, int army) {
        switch (what) {
            case 2:
                return w.from[army];
            case 3:
                return w.step[army];
            case 4:
                return w.lag[army];
            case 5:
                return w.place[army];
            case 6:
                return w.orderCounts[army];
            default:
                return NONE;
        }
    }

    public int order(int war, int army, int k, int what) {
        War w = warAt(war);
        if (w == null || !isOrder(w, army, k)) {
            return NONE;
        }
        int slot = War.slot(army, k);
        if (what == 0) {
            return w.moves[slot];
        }
        if (what == 1) {
            return w.lengths[slot];
        }
        boolean isBeat = what >= 10 && what - 10 < w.lengths[slot];
        return isBeat ? w.beats[slot * ORDER_BEATS_MOST + what - 10] : NONE;
    }

    public int given(int score, int giver, int k) {
        Score s = scoreAt(score);
        if (s == null || !isArmy(giver)) {
            return NONE;
        }
        if (k == NONE) {
            return s.counts[giver];
        }
        return k >= 0 && k < s.counts[giver] ? s.beats[giver * SCORE_BEATS_MOST + k] : NONE;
    }

    public int row(int war, int score, int k, int what) {
        if (!perform(war, score)) {
            return NO_SUCH;
        }
        if (k == NONE) {
            return what == 0 ? drum.length : NO_SUCH;
        }
        if (k < 0 || k >= drum.length) {
            return NO_SUCH;
        }
        switch (what) {
            case 0:
                return drum.gift[k];
            case 1:
                return drum.giver[k];
            case 2:
                return drum.sound[k];
            case 3:
                return drum.echoesAt(k) ? 1 : 0;
            default:
                return NO_SUCH;
        }
    }

    public int heard(int war, int score, int army, int k) {
        if (!isArmy(army) || !performToBoth(war, score)) {
            return NONE;
        }
        Ear ear = ears[army];
        if (k == NONE) {
            return ear.beatCount;
        }
        return k >= 0 && k < ear.beatCount ? ear.beats[k] : NONE;
    }

    public int made(int war, int score, int army, int k, int what) {
        if (!isArmy(army) || !performToBoth(war, score)) {
            return NO_SUCH;
        }
        Ear ear = ears[army];
        if (k == NONE) {
            return madeInAll(ear, what);
        }
        if (k < 0 || k >= ear.moveCount) {
            return NO_SUCH;
        }
        switch (what) {
            case 0:
                return ear.moves[k];
            case 1:
                return ear.placeOf(ear.firsts[k]);
            case 2:
                return ear.orders[k];
            case 3:
                return ear.foreignness(k, army, drum);
            default:
                return NO_SUCH;
        }
    }

    private int madeInAll(Ear ear, int what) {
        switch (what) {
            case 0:
                return ear.moveCount;
            case 1:
                return ear.danced;
            case 2:
                return ear.echoedMoves(drum);
            default:
                return NO_SUCH;
        }
    }

    public int march(int war, int score, int army, int t) {
        if (!isArmy(army) || t < 0 || t > STEPS || !performToBoth(war, score)) {
            return NO_PLACE;
        }
        field.walk(now.wars[war], ears[0], ears[1]);
        return army == 0 ? field.zero[t] : field.one[t];
    }

    public int meets(int war, int score) {
        if (!performToBoth(war, score)) {
            return NONE;
        }
        field.walk(now.wars[war], ears[0], ears[1]);
        return field.meeting;
    }

    public int force(int war, int army, int move, int n, boolean many) {
        War w = warAt(war);
        if (w == null || !isArmy(army) || !isMove(move) || n < 0 || n > FORCE_MOST) {
            return NO_SUCH;
        }
        int rows = 1 << (2 * n);
        int holding = 0;
        for (int own = 0; own < rows; own++) {
            guess.giveNumber(army, own, n);
            if (holdsAgainstAll(w, army, move, n)) {
                if (!many) {
                    return own;
                }
                holding++;
            }
        }
        return many ? holding : NONE;
    }

    private boolean holdsAgainstAll(War w, int army, int move, int n) {
        int rows = 1 << (2 * n);
        for (int other = 0; other < rows; other++) {
            guess.giveNumber(1 - army, other, n);
            drum.lay(w.turn, guess);
            if (!letsMake(w, army, move)) {
                return false;
            }
        }
        return true;
    }

    public int told(int hearing, int army, int k) {
        Hearing h = hearingAt(hearing);
        if (h == null || !isArmy(army)) {
            return NO_SUCH;
        }
        if (k == NONE) {
            return h.counts[army];
        }
        return k >= 0 && k < h.counts[army] ? h.moves[army * MOVES_TOLD_MOST + k] : NO_SUCH;
    }

    public int bribes(int war, int score, int hearing, int what) {
        War w = warAt(war);
        Score s = scoreAt(score);
        Hearing h = hearingAt(hearing);
        if (w == null || s == null || h == null || what < 0 || what > 2) {
            return NONE;
        }
        drum.lay(w.turn, s);
        if (drum.length > BRIBED_ROW_MOST) {
            return NONE;
        }
        int rests = drum.restsGiven();
        int ways = 0;
        int least = NONE;
        for (int places = 0; places < 1 << drum.length; places++) {
            if ((places & rests) == 0 && explains(w, h, places)) {
                ways++;
                if (least == NONE || Integer.bitCount(places) < Integer.bitCount(least)) {
                    least = places;
                }
            }
        }
        if (what == 0) {
            return ways;
        }
        return what == 2 || least == NONE ? least : Integer.bitCount(least);
    }

    private boolean explains(War w, Hearing h, int places) {
        drum.hush(places);
        return soundsAsTold(w, h);
    }

    public int meant(int war, int score, int hearing, int n, boolean first) {
        War w = warAt(war);
        Score s = scoreAt(score);
        Hearing h = hearingAt(hearing);
        if (w == null || s == null || h == null || n < 0 || n > MEANT_MOST) {
            return NO_SUCH;
        }
        guess.copyFrom(s);
        int ways = 0;
        for (int number = 0; number < 1 << (2 * n); number++) {
            guess.giveNumber(1, number, n);
            drum.lay(w.turn, guess);
            if (soundsAsTold(w, h)) {
                if (first) {
                    return number;
                }
                ways++;
            }
        }
        return first ? NONE : ways;
    }

    public int truce(int war, int one, int other, boolean row) {
        War w = warAt(war);
        if (w == null || !isMove(one) || !isMove(other)) {
            return NONE;
        }
        int found = shortestTruce(w, one, other);
        if (found == NONE) {
            return NONE;
        }
        return row ? found & ((1 << TRUCE_SHIFT) - 1) : found >> TRUCE_SHIFT;
    }

    /** How many beats, shifted by TRUCE_SHIFT, and their number below that. */
    private int shortestTruce(War w, int one, int other) {
        guess.giveNumber(1, 0, 0);
        for (int n = 0; n <= TRUCE_MOST; n++) {
            for (int number = 0; number < 1 << (2 * n); number++) {
                guess.giveNumber(0, number, n);
                drum.lay(w.turn, guess);
                if (letsMake(w, 0, one) && letsMake(w, 1, other)) {
                    return n << TRUCE_SHIFT | number;
                }
            }
        }
        return NONE;
    }

    public int far(int war, int army, int a, int b) {
        War w = warAt(war);
        if (w == null || !isOrder(w, army, a) || !isOrder(w, army, b)) {
            return NONE;
        }
        return codeBook.farness(w, War.slot(army, a), War.slot(army, b));
    }

    public int codes(int war, int army, int what) {
        War w = warAt(war);
        if (w == null || !isArmy(army)) {
            return NO_SUCH;
        }
        if (what == 0) {
            return codeBook.safety(w, army);
        }
        return what == 1 ? codeBook.heads(w, army) : NO_SUCH;
    }

    public int shared(int war, int k) {
        War w = warAt(war);
        if (w == null || k < NONE) {
            return NONE;
        }
        int many = 0;
        for (int i = 0; i < w.orderCounts[0]; i++) {
            for (int j = 0; j < w.orderCounts[1]; j++) {
                if (w.sameBeats(War.slot(0, i), War.slot(1, j))) {
                    if (many == k) {
                        return ORDERS_MOST * i + j;
                    }
                    many++;
                }
            }
        }
        return k == NONE ? many : NONE;
    }

    public int village(int villages, int k, int what) {
        Villages v = villagesAt(villages);
        if (v == null) {
            return NO_SUCH;
        }
        if (k == NONE) {
            return what == 0 ? v.many : NO_SUCH;
        }
        if (k < 0 || k >= v.many) {
            return NO_SUCH;
        }
        switch (what) {
            case 0:
                return v.parents[k];
            case 1:
                return v.changes[k];
            case 2:
                return v.firsts[k];
            case 3:
                return v.seconds[k];
            case 4:
                return v.depth(k);
            default:
                return NO_SUCH;
        }
    }

    public int version(int war, int score, int villages, int v, int k) {
        if (!tellAround(war, score, villages, v)) {
            return NONE;
        }
        int many = tales.counts[v];
        if (k == NONE) {
            return many;
        }
        return k >= 0 && k < many ? tales.beats[v][k] : NONE;
    }

    public int tale(int war, int score, int villages, int v, boolean likes) {
        if (!tellAround(war, score, villages, v)) {
            return NONE;
        }
        if (likes) {
            return tales.likeBits(v, now.villages[villages].many);
        }
        codeBook.take(0, tales.beats[v], 0, tales.counts[v]);
        codeBook.take(1, drum.sound, 0, drum.length);
        return codeBook.fewestChanges();
    }

    private boolean tellAround(int war, int score, int villages, int v) {
        Villages told = villagesAt(villages);
        if (told == null || v < 0 || v >= told.many || !perform(war, score)) {
            return false;
        }
        tales.tell(told, drum);
        return true;
    }

    public int drawn(int war, int score, int seed, int n, int what) {
        War w = warAt(war);
        Score s = scoreAt(score);
        if (w == null || s == null || n < 0 || n > EVENINGS_MOST) {
            return NONE;
        }
        int army = what >= 20 ? 1 : 0;
        int move = what - 10 - 10 * army;
        boolean ofMove = what >= 10 && isMove(move);
        if (what != 0 && what != 1 && !ofMove) {
            return NONE;
        }
        drum.lay(w.turn, s);
        int same = 0;
        int meetings = 0;
        moveCountsToNothing();
        int x = seed;
        for (int evening = 0; evening < n; evening++) {
            x = drum.blow(x);
            playToBoth(w);
            same += ears[0].madeTheSame(ears[1]) ? 1 : 0;
            meetings += theyMeet(w) ? 1 : 0;
            countMoves();
        }
        if (ofMove) {
            return moveCounts[army * MOVE_KINDS + move];
        }
        return what == 0 ? same : meetings;
    }

    private void moveCountsToNothing() {
        for (int i = 0; i < moveCounts.length; i++) {
            moveCounts[i] = 0;
        }
    }

    private void countMoves() {
        for (int army = 0; army < ARMIES; army++) {
            Ear ear = ears[army];
            for (int k = 0; k < ear.moveCount; k++) {
                moveCounts[army * MOVE_KINDS + ear.moves[k]]++;
            }
        }
    }

    private boolean theyMeet(War w) {
        field.walk(w, ears[0], ears[1]);
        return field.meeting != NONE;
    }

    public int common(int war, int score, int what) {
        if (!performToBoth(war, score)) {
            return NONE;
        }
        if (what == 2) {
            return drum.period();
        }
        if (what != 0 && what != 1) {
            return NONE;
        }
        int most = 0;
        int from = 0;
        for (int i = 0; i < ears[0].beatCount; i++) {
            int here = mostAlikeFrom(i);
            if (here > most) {
                most = here;
                from = i;
            }
        }
        return what == 0 ? most : from;
    }

    private int mostAlikeFrom(int i) {
        int most = 0;
        for (int j = 0; j < ears[1].beatCount; j++) {
            most = Math.max(most, ears[0].alikeFrom(i, ears[1], j));
        }
        return most;
    }

    public long readings(int war, int score, int army, boolean few) {
        if (!isArmy(army) || !performToBoth(war, score)) {
            return NO_SUCH;
        }
        codeBook.readAll(now.wars[war], army, ears[army]);
        int whole = ears[army].beatCount;
        return few ? codeBook.fewest[whole] : codeBook.ways[whole];
    }

    public int unique(int war, int army, boolean twofold) {
        War w = warAt(war);
        if (w == null || !isArmy(army)) {
            return NO_SUCH;
        }
        int shortest = codeBook.shortestTwofold(w, army);
        if (twofold) {
            return shortest;
        }
        return shortest == NONE ? 1 : 0;
    }

    public int fix(int war, int score, int army, int move, boolean bits) {
        War w = warAt(war);
        Score s = scoreAt(score);
        if (w == null || s == null || !isArmy(army) || !isMove(move)) {
            return NONE;
        }
        drum.lay(w.turn, s);
        int places = fewestChanged(w, army, move);
        return bits || places == NONE ? places : Integer.bitCount(places);
    }

    private int fewestChanged(War w, int army, int move) {
        if (letsMake(w, army, move)) {
            return 0;
        }
        for (int place = 0; place < drum.length; place++) {
            if (letsMakeBy(w, army, move, place, place)) {
                return 1 << place;
            }
        }
        for (int later = 1; later < drum.length; later++) {
            for (int sooner = 0; sooner < later; sooner++) {
                if (letsMakeBy(w, army, move, sooner, later)) {
                    return 1 << later | 1 << sooner;
                }
            }
        }
        return NONE;
    }

    /** Whether other beats at two places, or at one that is told twice, let the army make the move. */
    private boolean letsMakeBy(War w, int army, int move, int sooner, int later) {
        boolean lets = false;
        int kinds = sooner == later ? 2 : BEAT_KINDS;
        for (int byLater = 1; byLater < kinds && !lets; byLater++) {
            drum.giveOther(later, byLater);
            for (int bySooner = 1; bySooner < BEAT_KINDS && !lets; bySooner++) {
                drum.giveOther(sooner, bySooner);
                lets = letsMake(w, army, move);
            }
        }
        drum.giveOther(later, 0);
        drum.giveOther(sooner, 0);
        return lets;
    }

    public int count(int sort) {
        return isSort(sort) ? now.counts[sort] : NO_SUCH;
    }

    public boolean image(int k) {
        if (k < 0 || k >= IMAGES) {
            return false;
        }
        images[k].copyFrom(now);
        imageTaken[k] = true;
        return true;
    }

    public boolean again(int k) {
        if (k < 0 || k >= IMAGES || !imageTaken[k]) {
            return false;
        }
        now.copyFrom(images[k]);
        return true;
    }

    private static boolean isArmy(int army) {
        return army >= 0 && army < ARMIES;
    }

    private static boolean isMove(int move) {
        return move >= 0 && move < MOVE_KINDS;
    }

    private static boolean isOrder(War w, int army, int k) {
        return isArmy(army) && k >= 0 && k < w.orderCounts[army];
    }

    private War warAt(int k) {
        return k >= 0 && k < now.counts[WARS] ? now.wars[k] : null;
    }

    private Score scoreAt(int k) {
        return k >= 0 && k < now.counts[SCORES] ? now.scores[k] : null;
    }

    private Hearing hearingAt(int k) {
        return k >= 0 && k < now.counts[HEARINGS] ? now.hearings[k] : null;
    }

    private Villages villagesAt(int k) {
        return k >= 0 && k < now.counts[VILLAGE_ROWS] ? now.villages[k] : null;
    }

    /** Whether there are such a war and such a score; the drum has played it then. */
    private boolean perform(int war, int score) {
        War w = warAt(war);
        Score s = scoreAt(score);
        if (w == null || s == null) {
            return false;
        }
        drum.lay(w.turn, s);
        drum.play(w);
        return true;
    }

    private boolean performToBoth(int war, int score) {
        if (!perform(war, score)) {
            return false;
        }
        listenBoth(now.wars[war]);
        return true;
    }

    private void playToBoth(War w) {
        drum.play(w);
        listenBoth(w);
    }

    private void listenBoth(War w) {
        for (int army = 0; army < ARMIES; army++) {
            ears[army].listen(w, army, drum);
        }
    }

    private boolean letsMake(War w, int army, int move) {
        drum.play(w);
        ears[army].listen(w, army, drum);
        return ears[army].hasMade(move);
    }

    private boolean soundsAsTold(War w, Hearing h) {
        drum.play(w);
        for (int army = 0; army < ARMIES; army++) {
            if (h.counts[army] != NONE) {
                ears[army].listen(w, army, drum);
                if (!ears[army].madeAsTold(h, army)) {
                    return false;
                }
            }
        }
        return true;
    }

    /** All that is told, which is what an image holds. */
    private static final class Told {
        final byte[] tape = new byte[TAPE_MOST];
        int tapeLength = 0;
        int faultKind = 0;
        int faultPlace = NONE;
        final int[] counts = new int[SORTS];
        final War[] wars = new War[OF_A_SORT_MOST];
        final Score[] scores = new Score[OF_A_SORT_MOST];
        final Hearing[] hearings = new Hearing[OF_A_SORT_MOST];
        final Villages[] villages = new Villages[OF_A_SORT_MOST];

        Told() {
            for (int k = 0; k < OF_A_SORT_MOST; k++) {
                wars[k] = new War();
                scores[k] = new Score();
                hearings[k] = new Hearing();
                villages[k] = new Villages();
            }
        }

        void push(int four) {
            for (int shift = 24; shift >= 0 && tapeLength < TAPE_MOST; shift -= 8) {
                tape[tapeLength] = (byte) (four >> shift);
                tapeLength++;
            }
        }

        void copyFrom(Told other) {
            System.arraycopy(other.tape, 0, tape, 0, TAPE_MOST);
            tapeLength = other.tapeLength;
            faultKind = other.faultKind;
            faultPlace = other.faultPlace;
            System.arraycopy(other.counts, 0, counts, 0, SORTS);
            for (int k = 0; k < OF_A_SORT_MOST; k++) {
                wars[k].copyFrom(other.wars[k]);
                scores[k].copyFrom(other.scores[k]);
                hearings[k].copyFrom(other.hearings[k]);
                villages[k].copyFrom(other.villages[k]);
            }
        }
    }

    private static final class War {
        int turn;
        int tired;
        int echo;
        final int[] wet = new int[BEAT_KINDS];
        final int[] from = new int[ARMIES];
        final int[] step = new int[ARMIES];
        final int[] lag = new int[ARMIES];
        final int[] place = new int[ARMIES];
        final int[] orderCounts = new int[ARMIES];
        final int[] moves = new int[ARMIES * ORDERS_MOST];
        final int[] lengths = new int[ARMIES * ORDERS_MOST];
        final int[] beats = new int[ARMIES * ORDERS_MOST * ORDER_BEATS_MOST];

        War() {
            reset();
        }

        static int slot(int army, int k) {
            return army * ORDERS_MOST + k;
        }

        void reset() {
            turn = 1;
            tired = 0;
            echo = 0;
            for (int beat = 0; beat < BEAT_KINDS; beat++) {
                wet[beat] = beat;
            }
            for (int army = 0; army < ARMIES; army++) {
                from[army] = 0;
                step[army] = 1;
                lag[army] = 0;
                place[army] = 10 * army;
                orderCounts[army] = 0;
            }
        }

        void copyFrom(War other) {
            turn = other.turn;
            tired = other.tired;
            echo = other.echo;
            System.arraycopy(other.wet, 0, wet, 0, wet.length);
            System.arraycopy(other.from, 0, from, 0, ARMIES);
            System.arraycopy(other.step, 0, step, 0, ARMIES);
            System.arraycopy(other.lag, 0, lag, 0, ARMIES);
            System.arraycopy(other.place, 0, place, 0, ARMIES);
            System.arraycopy(other.orderCounts, 0, orderCounts, 0, ARMIES);
            System.arraycopy(other.moves, 0, moves, 0, moves.length);
            System.arraycopy(other.lengths, 0, lengths, 0, lengths.length);
            System.arraycopy(other.beats, 0, beats, 0, beats.length);
        }

        boolean sameBeats(int slot, int other) {
            return lengths[slot] == lengths[other] && agree(slot, 0, other, lengths[slot]);
        }

        /** Whether so many beats of an order, from one of them on, are the first ones of another. */
        boolean agree(int slot, int at, int other, int many) {
            if (at + many > lengths[slot] || many > lengths[other]) {
                return false;
            }
            for (int i = 0; i < many; i++) {
                if (beats[slot * ORDER_BEATS_MOST + at + i] != beats[other * ORDER_BEATS_MOST + i]) {
                    return false;
                }
            }
            return true;
        }
    }

    private static final class Score {
        final int[] counts = new int[ARMIES];
        final int[] beats = new int[ARMIES * SCORE_BEATS_MOST];

        void reset() {
            counts[0] = 0;
            counts[1] = 0;
        }

        void copyFrom(Score other) {
            System.arraycopy(other.counts, 0, counts, 0, ARMIES);
            System.arraycopy(other.beats, 0, beats, 0, beats.length);
        }

        /** A giver gives n beats, told as a number of n figures base 4. */
        void giveNumber(int giver, int number, int n) {
            int many = Math.min(n, SCORE_BEATS_MOST);
            counts[giver] = many;
            for (int i = 0; i < many; i++) {
                beats[giver * SCORE_BEATS_MOST + i] = number >> (2 * (many - 1 - i)) & 3;
            }
        }
    }

    private static final class Hearing {
        final int[] counts = new int[ARMIES];
        final int[] moves = new int[ARMIES * MOVES_TOLD_MOST];

        Hearing() {
            reset();
        }

        void reset() {
            counts[0] = NONE;
            counts[1] = NONE;
        }

        void copyFrom(Hearing other) {
            System.arraycopy(other.counts, 0, counts, 0, ARMIES);
            System.arraycopy(other.moves, 0, moves, 0, moves.length);
        }
    }

    private static final class Villages {
        int many = 0;
        final int[] parents = new int[VILLAGES_MOST];
        final int[] changes = new int[VILLAGES_MOST];
        final int[] firsts = new int[VILLAGES_MOST];
        final int[] seconds = new int[VILLAGES_MOST];

        void copyFrom(Villages other) {
            many = other.many;
            System.arraycopy(other.parents, 0, parents, 0, VILLAGES_MOST);
            System.arraycopy(other.changes, 0, changes, 0, VILLAGES_MOST);
            System.arraycopy(other.firsts, 0, firsts, 0, VILLAGES_MOST);
            System.arraycopy(other.seconds, 0, seconds, 0, VILLAGES_MOST);
        }

        int depth(int k) {
            int deep = 1;
            int at = k;
            for (int i = 0; i < VILLAGES_MOST && parents[at] < at; i++) {
                at = parents[at];
                deep++;
            }
            return deep;
        }
    }

    /** Reads a tape as a text, into drafts that are worth something only without a fault. */
    private static final class Reader {
        /** Each word with a blank behind it; its number is its place among them. */
        private static final String WORDS = "rest tap flam roll halt left right charge retreat turn tired echo wet from step lag place order gives made drop swap twice last ";
        private static final int FIRST_MOVE = 4;
        private static final int TURN_WORD = 9;
        private static final int TIRED_WORD = 10;
        private static final int WET_WORD = 12;
        private static final int FROM_WORD = 13;
        private static final int STEP_WORD = 14;
        private static final int LAG_WORD = 15;
        private static final int ORDER_WORD = 17;
        private static final int GIVES_WORD = 18;
        private static final int MADE_WORD = 19;
        private static final int DROP_WORD = 20;

        private static final int END_TOKEN = 0;
        private static final int WORD_TOKEN = 1;
        private static final int NUMBER_TOKEN = 2;
        private static final int SEMICOLON_TOKEN = 3;
        private static final int NO_TOKEN = 4;

        final War war = new War();
        final Score score = new Score();
        final Hearing hearing = new Hearing();
        final Villages villages = new Villages();
        int faultKind = 0;
        int faultPlace = NONE;
        private final int[] kinds = new int[TAPE_MOST + 1];
        private final int[] places = new int[TAPE_MOST + 1];
        private final int[] values = new int[TAPE_MOST + 1];
        private int tokens = 0;
        private int at = 0;
        private int kind = END_TOKEN;
        private int place = 0;
        private int value = NONE;
        private int taken = NONE;

        void read(byte[] tape, int length, int sort) {
            scan(tape, Math.min(length, tape.length));
            at = 0;
            faultKind = 0;
            faultPlace = NONE;
            resetDrafts();
            next();
            for (int line = 0; line <= TAPE_MOST && kind != END_TOKEN; line++) {
                if (!readLine(sort)) {
                    faultKind = 1;
                    faultPlace = place;
                    return;
                }
            }
        }

        private void resetDrafts() {
            war.reset();
            score.reset();
            hearing.reset();
            villages.many = 0;
        }

        private boolean readLine(int sort) {
            int word = kind == WORD_TOKEN ? value : NONE;
            int linePlace = place;
            boolean goesOn;
            switch (sort) {
                case WARS:
                    goesOn = readWarLine(word, linePlace);
                    break;
                case SCORES:
                    goesOn = readScoreLine(word);
                    break;
                case HEARINGS:
                    goesOn = readHearingLine(word);
                    break;
                default:
                    goesOn = readVillageLine(word, linePlace);
                    break;
            }
            return goesOn && takeSemicolon();
        }

        private boolean readWarLine(int word, int linePlace) {
            if (word < TURN_WORD || word > ORDER_WORD) {
                return false;
            }
            next();
            if (word == ORDER_WORD) {
                return readOrder(linePlace);
            }
            if (word == WET_WORD) {
                return readWet();
            }
            return word < WET_WORD ? readOfDrum(word) : readOfArmy(word);
        }

        private boolean readOfDrum(int word) {
            boolean isTurn = word == TURN_WORD;
            if (!takeNumber(isTurn ? 1 : 0, isTurn ? 4 : 9)) {
                return false;
            }
            if (taken == NONE) {
                return true;
            }
            if (isTurn) {
                war.turn = taken;
            } else if (word == TIRED_WORD) {
                war.tired = taken;
            } else {
                war.echo = taken;
            }
            return true;
        }

        private boolean readWet() {
            if (!takeBeat()) {
                return false;
            }
            int which = taken;
            if (!takeBeat()) {
                return false;
            }
            war.wet[which] = taken;
            return true;
        }

        private boolean readOfArmy(int word) {
            if (!takeNumber(0, 1)) {
                return false;
            }
            int army = taken;
            if (!takeNumber(word == STEP_WORD ? 1 : 0, mostOfArmy(word))) {
                return false;
            }
            if (army == NONE || taken == NONE) {
                return true;
            }
            if (word == FROM_WORD) {
                war.from[army] = taken;
            } else if (word == STEP_WORD) {
                war.step[army] = taken;
            } else if (word == LAG_WORD) {
                war.lag[army] = taken;
            } else {
                war.place[army] = taken;
            }
            return true;
        }

        private static int mostOfArmy(int word) {
            if (word == STEP_WORD) {
                return 4;
            }
            return word == FROM_WORD || word == LAG_WORD ? 3 : 20;
        }

        private boolean readOrder(int linePlace) {
            if (!takeNumber(0, 1)) {
                return false;
            }
            int army = taken;
            int slot = NONE;
            if (army != NONE && war.orderCounts[army] < ORDERS_MOST) {
                slot = War.slot(army, war.orderCounts[army]);
            } else if (army != NONE) {
                note(3, linePlace);
            }
            if (!takeMove()) {
                return false;
            }
            int move = taken;
            if (!isBeatHere()) {
                return false;
            }
            int many = readOrderBeats(slot);
            if (slot != NONE) {
                war.moves[slot] = move;
                war.lengths[slot] = many;
                war.orderCounts[army]++;
            }
            return true;
        }

        private int readOrderBeats(int slot) {
            int many = 0;
            for (int i = 0; i < TAPE_MOST && isBeatHere(); i++) {
                if (many >= ORDER_BEATS_MOST) {
                    note(3, place);
                } else {
                    if (slot != NONE) {
                        war.beats[slot * ORDER_BEATS_MOST + many] = value;
                    }
                    many++;
                }
                next();
            }
            return many;
        }

        private boolean readScoreLine(int word) {
            if (word != GIVES_WORD) {
                return false;
            }
            next();
            if (!takeNumber(0, 1) || !isBeatHere()) {
                return false;
            }
            int giver = taken;
            for (int i = 0; i < TAPE_MOST && isBeatHere(); i++) {
                if (giver != NONE) {
                    addGiven(giver);
                }
                next();
            }
            return true;
        }

        private void addGiven(int giver) {
            int many = score.counts[giver];
            if (many >= SCORE_BEATS_MOST) {
                note(3, place);
                return;
            }
            score.beats[giver * SCORE_BEATS_MOST + many] = value;
            score.counts[giver] = many + 1;
        }

        private boolean readHearingLine(int word) {
            if (word != MADE_WORD) {
                return false;
            }
            next();
            if (!takeNumber(0, 1)) {
                return false;
            }
            int army = taken;
            int many = 0;
            for (int i = 0; i < TAPE_MOST && isMoveHere(); i++) {
                if (many >= MOVES_TOLD_MOST) {
                    note(3, place);
                } else {
                    if (army != NONE) {
                        hearing.moves[army * MOVES_TOLD_MOST + many] = value - FIRST_MOVE;
                    }
                    many++;
                }
                next();
            }
            if (army != NONE) {
                hearing.counts[army] = many;
            }
            return true;
        }

        private boolean readVillageLine(int word, int linePlace) {
            if (word < DROP_WORD) {
                return false;
            }
            int change = word - DROP_WORD;
            next();
            if (villages.many >= VILLAGES_MOST) {
                note(3, linePlace);
            }
            if (!takeParent()) {
                return false;
            }
            int parent = taken;
            int first = NONE;
            int second = NONE;
            if (change == DROP) {
                if (!takeNumber(1, 9)) {
                    return false;
                }
                first = taken;
            } else if (change != LAST) {
                if (!takeBeat()) {
                    return false;
                }
                first = taken;
            }
            if (change == SWAP) {
                if (isBeatHere() && value == first) {
                    note(4, place);
                }
                if (!takeBeat()) {
                    return false;
                }
                second = taken;
            }
            addVillage(parent, change, first, second);
            return true;
        }

        private void addVillage(int parent, int change, int first, int second) {
            int k = villages.many;
            if (k < VILLAGES_MOST) {
                villages.parents[k] = parent;
                villages.changes[k] = change;
                villages.firsts[k] = first;
                villages.seconds[k] = second;
                villages.many = k + 1;
            }
        }

        private boolean takeParent() {
            if (kind == NUMBER_TOKEN && value == THE_DRUM) {
                return takeNumber(THE_DRUM, THE_DRUM);
            }
            return takeNumber(0, villages.many - 1);
        }

        /** Takes a number, as NONE with a fault if it is out of its bounds; false if it is no number. */
        private boolean takeNumber(int least, int most) {
            if (kind != NUMBER_TOKEN) {
                return false;
            }
            taken = value;
            if (value < least || value > most) {
                taken = NONE;
                note(2, place);
            }
            next();
            return true;
        }

        private boolean takeBeat() {
            if (!isBeatHere()) {
                return false;
            }
            taken = value;
            next();
            return true;
        }

        private boolean takeMove() {
            if (!isMoveHere()) {
                return false;
            }
            taken = value - FIRST_MOVE;
            next();
            return true;
        }

        private boolean takeSemicolon() {
            if (kind != SEMICOLON_TOKEN) {
                return false;
            }
            next();
            return true;
        }

        private boolean isBeatHere() {
            return kind == WORD_TOKEN && value >= 0 && value < BEAT_KINDS;
        }

        private boolean isMoveHere() {
            return kind == WORD_TOKEN && value >= FIRST_MOVE && value < FIRST_MOVE + MOVE_KINDS;
        }

        private void note(int fault, int where) {
            boolean isFirst = faultKind == 0 || where < faultPlace
                    || where == faultPlace && fault < faultKind;
            if (isFirst) {
                faultKind = fault;
                faultPlace = where;
            }
        }

        private void next() {
            if (at < tokens) {
                kind = kinds[at];
                place = places[at];
                value = values[at];
                at++;
            }
        }

        /** All tokens of the tape, the end as the last one. */
        private void scan(byte[] tape, int length) {
            tokens = 0;
            int from = 0;
            while (from < length) {
                int to = from + 1;
                if (isLetter(tape[from])) {
                    to = behindLetters(tape, to, length);
                    keepToken(WORD_TOKEN, from, wordNumber(tape, from, to));
                } else if (isDigit(tape[from])) {
                    to = behindDigits(tape, to, length);
                    keepToken(to - from > 2 ? NO_TOKEN : NUMBER_TOKEN, from, number(tape, from, to));
                } else if (tape[from] == ';') {
                    keepToken(SEMICOLON_TOKEN, from, NONE);
                } else if (tape[from] != ' ' && tape[from] != '\n') {
                    keepToken(NO_TOKEN, from, NONE);
                }
                from = Math.max(from + 1, to);
            }
            keepToken(END_TOKEN, length, NONE);
        }

        private void keepToken(int tokenKind, int where, int tokenValue) {
            if (tokens <= TAPE_MOST) {
                kinds[tokens] = tokenKind;
                places[tokens] = where;
                values[tokens] = tokenValue;
                tokens++;
            }
        }

        private static boolean isLetter(int b) {
            return b >= 'a' && b <= 'z';
        }

        private static boolean isDigit(int b) {
            return b >= '0' && b <= '9';
        }

        private static int behindLetters(byte[] tape, int from, int length) {
            int to = from;
            while (to < length && isLetter(tape[to])) {
                to++;
            }
            return to;
        }

        private static int behindDigits(byte[] tape, int from, int length) {
            int to = from;
            while (to < length && isDigit(tape[to])) {
                to++;
            }
            return to;
        }

        private static int number(byte[] tape, int from, int to) {
            int sum = 0;
            for (int i = from; i < to; i++) {
                sum = sum * 10 + tape[i] - '0';
            }
            return sum;
        }

        private static int wordNumber(byte[] tape, int from, int to) {
            int number = 0;
            int begin = 0;
            for (int i = 0; i < WORDS.length(); i++) {
                if (WORDS.charAt(i) == ' ') {
                    if (i - begin == to - from && isWord(tape, from, begin, i)) {
                        return number;
                    }
                    number++;
                    begin = i + 1;
                }
            }
            return NONE;
        }

        private static boolean isWord(byte[] tape, int from, int begin, int behind) {
            for (int i = begin; i < behind; i++) {
                if (WORDS.charAt(i) != tape[from + i - begin]) {
                    return false;
                }
            }
            return true;
        }
    }

    /** A row of beats as it was given, and what is played of it. */
    private static final class Drum {
        final int[] gift = new int[ROW_MOST];
        final int[] giver = new int[ROW_MOST];
        final int[] truth = new int[ROW_MOST];
        final int[] sound = new int[ROW_MOST];
        final boolean[] isEcho = new boolean[ROW_MOST];
        int length = 0;

        void lay(int turn, Score score) {
            int next = Math.max(1, turn);
            length = 0;
            for (int from = 0; from < SCORE_BEATS_MOST; from += next) {
                layTurn(score, 0, from, from + next);
                layTurn(score, 1, from, from + next);
            }
        }

        private void layTurn(Score score, int who, int from, int to) {
            int till = Math.min(to, score.counts[who]);
            for (int i = from; i < till && length < ROW_MOST; i++) {
                gift[length] = score.beats[who * SCORE_BEATS_MOST + i];
                truth[length] = gift[length];
                giver[length] = who;
                length++;
            }
        }

        boolean wasGivenBy(int who, int place) {
            return place >= 0 && place < length && giver[place] == who;
        }

        boolean echoesAt(int place) {
            return place >= 0 && place < length && isEcho[place];
        }

        int restsGiven() {
            int bits = 0;
            for (int i = 0; i < length; i++) {
                bits |= gift[i] == REST ? 1 << i : 0;
            }
            return bits;
        }

        /** Rests in truth at these places (bits), at others what was given. */
        void hush(int places) {
            for (int i = 0; i < length; i++) {
                truth[i] = (places >> i & 1) == 1 ? REST : gift[i];
            }
        }

        /** An evening of wind, drawn from x; what x has become. */
        int blow(int x) {
            int drawnLast = x;
            for (int i = 0; i < length; i++) {
                drawnLast = drawnLast * 1103515245 + 12345;
                truth[i] = (drawnLast >>> 16) % WIND_ONE_IN == 0 ? REST : gift[i];
            }
            return drawnLast;
        }

        /** The beat so many kinds on from the given one; by 0 that one. */
        void giveOther(int place, int by) {
            if (place >= 0 && place < length) {
                truth[place] = (gift[place] + by) % BEAT_KINDS;
            }
        }

        void play(War war) {
            for (int i = 0; i < length; i++) {
                boolean tires = war.tired > 0 && (i + 1) % war.tired == 0;
                sound[i] = war.wet[tires ? REST : truth[i]];
                isEcho[i] = false;
            }
            if (war.echo > 0) {
                sendEchoes(war.echo);
            }
        }

        private void sendEchoes(int behind) {
            for (int i = 0; i + behind < length; i++) {
                if (sound[i] == FLAM && sound[i + behind] == REST) {
                    sound[i + behind] = TAP;
                    isEcho[i + behind] = true;
                }
            }
        }

        int period() {
            for (int n = 1; n < length; n++) {
                if (repeatsAfter(n)) {
                    return n;
                }
            }
            return length;
        }

        private boolean repeatsAfter(int n) {
            for (int i = 0; i + n < length; i++) {
                if (sound[i] != sound[i + n]) {
                    return false;
                }
            }
            return true;
        }
    }

    /** What an army hears, and what it makes of it. */
    private static final class Ear {
        final int[] beats = new int[ROW_MOST];
        int beatCount = 0;
        final int[] moves = new int[ROW_MOST];
        final int[] orders = new int[ROW_MOST];
        final int[] firsts = new int[ROW_MOST];
        final int[] lengths = new int[ROW_MOST];
        int moveCount = 0;
        int danced = 0;
        private int from = 0;
        private int step = 1;

        void listen(War war, int army, Drum drum) {
            from = war.from[army];
            step = Math.max(1, war.step[army]);
            beatCount = 0;
            for (int place = from; place < drum.length && beatCount < ROW_MOST; place += step) {
                beats[beatCount] = drum.sound[place];
                beatCount++;
            }
            moveCount = 0;
            danced = 0;
            int at = 0;
            while (at < beatCount) {
                int order = longestOrder(war, army, at);
                if (order == NONE) {
                    danced++;
                    at++;
                } else {
                    int slot = War.slot(army, order);
                    moves[moveCount] = war.moves[slot];
                    orders[moveCount] = order;
                    firsts[moveCount] = at;
                    lengths[moveCount] = war.lengths[slot];
                    at += Math.max(1, war.lengths[slot]);
                    moveCount++;
                }
            }
        }

        private int longestOrder(War war, int army, int at) {
            int longest = NONE;
            int most = 0;
            for (int k = 0; k < war.orderCounts[army]; k++) {
                int slot = War.slot(army, k);
                if (war.lengths[slot] > most && hears(war, slot, at)) {
                    longest = k;
                    most = war.lengths[slot];
                }
            }
            return longest;
        }

        /** Whether the beats of an order are those heard from one of them on. */
        boolean hears(War war, int slot, int at) {
            int many = war.lengths[slot];
            if (at + many > beatCount) {
                return false;
            }
            for (int i = 0; i < many; i++) {
                if (beats[at + i] != war.beats[slot * ORDER_BEATS_MOST + i]) {
                    return false;
                }
            }
            return true;
        }

        int placeOf(int k) {
            return from + k * step;
        }

        /** Of a move: 0 pure, 1 mixed, 2 foreign. */
        int foreignness(int k, int army, Drum drum) {
            int own = 0;
            for (int i = 0; i < lengths[k]; i++) {
                own += drum.wasGivenBy(army, placeOf(firsts[k] + i)) ? 1 : 0;
            }
            if (own == lengths[k]) {
                return 0;
            }
            return own == 0 ? 2 : 1;
        }

        int echoedMoves(Drum drum) {
            int many = 0;
            for (int k = 0; k < moveCount; k++) {
                boolean echoed = false;
                for (int i = 0; i < lengths[k]; i++) {
                    echoed |= drum.echoesAt(placeOf(firsts[k] + i));
                }
                many += echoed ? 1 : 0;
            }
            return many;
        }

        boolean hasMade(int move) {
            for (int k = 0; k < moveCount; k++) {
                if (moves[k] == move) {
                    return true;
                }
            }
            return false;
        }

        boolean madeAsTold(Hearing hearing, int army) {
            if (moveCount != hearing.counts[army]) {
                return false;
            }
            for (int k = 0; k < moveCount; k++) {
                if (moves[k] != hearing.moves[army * MOVES_TOLD_MOST + k]) {
                    return false;
                }
            }
            return true;
        }

        boolean madeTheSame(Ear other) {
            if (moveCount != other.moveCount) {
                return false;
            }
            for (int k = 0; k < moveCount; k++) {
                if (moves[k] != other.moves[k]) {
                    return false;
                }
            }
            return true;
        }

        /** How many beats from i on are those that the other one hears from j on. */
        int alikeFrom(int i, Ear other, int j) {
            int most = Math.min(beatCount - i, other.beatCount - j);
            int many = 0;
            while (many < most && beats[i + many] == other.beats[j + many]) {
                many++;
            }
            return many;
        }
    }

    /** Where both armies march. */
    private static final class Field {
        final int[] zero = new int[STEPS + 1];
        final int[] one = new int[STEPS + 1];
        int meeting = NONE;

        void walk(War war, Ear earZero, Ear earOne) {
            zero[0] = war.place[0];
            one[0] = war.place[1];
            meeting = zero[0] == one[0] ? 0 : NONE;
            for (int t = 1; t <= STEPS; t++) {
                int ahead = one[t - 1] - zero[t - 1];
                zero[t] = zero[t - 1] + stride(moveAt(earZero, t - 1 - war.lag[0]), ahead, -1);
                one[t] = one[t - 1] + stride(moveAt(earOne, t - 1 - war.lag[1]), -ahead, 1);
                int behind = one[t] - zero[t];
                boolean crossed = ahead < 0 && behind > 0 || ahead > 0 && behind < 0;
                if (meeting == NONE && (behind == 0 || crossed)) {
                    meeting = t;
                }
            }
        }

        private static int moveAt(Ear ear, int k) {
            return k >= 0 && k < ear.moveCount ? ear.moves[k] : HALT;
        }

        /** How far a move goes, the other one being so far off; home is where it flees from its own place. */
        private static int stride(int move, int off, int home) {
            switch (move) {
                case LEFT:
                    return -1;
                case RIGHT:
                    return 1;
                case CHARGE:
                    return 2 * Integer.signum(off);
                case RETREAT:
                    return off == 0 ? 2 * home : -2 * Integer.signum(off);
                default:
                    return 0;
            }
        }
    }

    /** What the villages repeat. */
    private static final class Tales {
        final int[][] beats = new int[VILLAGES_MOST][VERSION_MOST];
        final int[] counts = new int[VILLAGES_MOST];

        void tell(Villages villages, Drum drum) {
            for (int v = 0; v < villages.many; v++) {
                int parent = villages.parents[v];
                if (parent >= 0 && parent < v) {
                    repeat(villages, v, beats[parent], counts[parent]);
                } else {
                    repeat(villages, v, drum.sound, drum.length);
                }
            }
        }

        private void repeat(Villages villages, int v, int[] parent, int many) {
            int change = villages.changes[v];
            int first = villages.firsts[v];
            counts[v] = 0;
            for (int i = 0; i < many; i++) {
                boolean dropped = change == DROP && first > 0 && (i + 1) % first == 0;
                boolean last = change == LAST && i == many - 1;
                if (!dropped && !last) {
                    int beat = change == SWAP ? swapped(parent[i], first, villages.seconds[v]) : parent[i];
                    say(v, beat);
                    if (change == TWICE && beat == first) {
                        say(v, beat);
                    }
                }
            }
        }

        private static int swapped(int beat, int one, int other) {
            if (beat == one) {
                return other;
            }
            return beat == other ? one : beat;
        }

        private void say(int v, int beat) {
            int many = counts[v];
            if (many < VERSION_MOST) {
                beats[v][many] = beat;
                counts[v] = many + 1;
            }
        }

        int likeBits(int v, int villageCount) {
            int bits = 0;
            for (int other = 0; other < villageCount && other < VILLAGES_MOST; other++) {
                bits |= sameVersion(v, other) ? 1 << other : 0;
            }
            return bits;
        }

        private boolean sameVersion(int v, int other) {
            if (counts[v] != counts[other]) {
                return false;
            }
            for (int i = 0; i < counts[v]; i++) {
                if (beats[v][i] != beats[other][i]) {
                    return false;
                }
            }
            return true;
        }
    }

    /** What holds of rows of beats as codes: how far they are, how they are told apart. */
    private static final class Codes {
        private static final int FAR_OFF = 1000000;
        private static final int RESTS_MOST = ORDERS_MOST * ORDER_BEATS_MOST;

        final long[] ways = new long[ROW_MOST + 1];
        final int[] fewest = new int[ROW_MOST + 1];
        private final int[][] rows = new int[2][VERSION_MOST];
        private final int[] rowCounts = new int[2];
        private final int[] line = new int[VERSION_MOST + 1];
        private final int[] shortest = new int[RESTS_MOST];
        private int twofold = FAR_OFF;

        void take(int which, int[] from, int at, int many) {
            int till = Math.min(many, VERSION_MOST);
            for (int i = 0; i < till && at + i < from.length; i++) {
                rows[which][i] = from[at + i];
            }
            rowCounts[which] = till;
        }

        int farness(War war, int slot, int other) {
            take(0, war.beats, slot * ORDER_BEATS_MOST, war.lengths[slot]);
            take(1, war.beats, other * ORDER_BEATS_MOST, war.lengths[other]);
            return fewestChanges();
        }

        /** The fewest beats put in, left out or changed between the two rows taken. */
        int fewestChanges() {
            for (int j = 0; j <= rowCounts[1]; j++) {
                line[j] = j;
            }
            for (int i = 1; i <= rowCounts[0]; i++) {
                int diagonal = line[0];
                line[0] = i;
                for (int j = 1; j <= rowCounts[1]; j++) {
                    int changed = diagonal + (rows[0][i - 1] == rows[1][j - 1] ? 0 : 1);
                    diagonal = line[j];
                    line[j] = Math.min(changed, 1 + Math.min(line[j], line[j - 1]));
                }
            }
            return line[rowCounts[1]];
        }

        int safety(War war, int army) {
            int least = NONE;
            for (int i = 0; i < war.orderCounts[army]; i++) {
                for (int j = 0; j < i; j++) {
                    int one = War.slot(army, i);
                    int other = War.slot(army, j);
                    if (war.moves[one] != war.moves[other]) {
                        int off = farness(war, one, other);
                        least = least == NONE ? off : Math.min(least, off);
                    }
                }
            }
            return least;
        }

        int heads(War war, int army) {
            int many = 0;
            for (int i = 0; i < war.orderCounts[army]; i++) {
                for (int j = 0; j < i; j++) {
                    int one = War.slot(army, i);
                    int other = War.slot(army, j);
                    int both = Math.min(war.lengths[one], war.lengths[other]);
                    many += war.agree(one, 0, other, both) ? 1 : 0;
                }
            }
            return many;
        }

        /** In how many ways, and by how few orders, the first beats heard are orders, for each number of them. */
        void readAll(War war, int army, Ear ear) {
            for (int i = 0; i <= ROW_MOST; i++) {
                ways[i] = 0;
                fewest[i] = NONE;
            }
            ways[0] = 1;
            fewest[0] = 0;
            for (int i = 0; i < ear.beatCount; i++) {
                for (int k = 0; k < war.orderCounts[army] && fewest[i] != NONE; k++) {
                    int slot = War.slot(army, k);
                    if (ear.hears(war, slot, i)) {
                        readOn(i, i + war.lengths[slot]);
                    }
                }
            }
        }

        private void readOn(int from, int to) {
            if (to <= ROW_MOST) {
                ways[to] += ways[from];
                int many = fewest[from] + 1;
                fewest[to] = fewest[to] == NONE ? many : Math.min(fewest[to], many);
            }
        }

        /**
         * How many beats the shortest row has that is orders in two ways. Two readings of a row are laid
         * side by side; what one has ahead of the other is the rest of an order, and for each such rest
         * the shortest rows so far are kept.
         */
        int shortestTwofold(War war, int army) {
            for (int i = 0; i < RESTS_MOST; i++) {
                shortest[i] = FAR_OFF;
            }
            twofold = FAR_OFF;
            for (int i = 0; i < war.orderCounts[army]; i++) {
                for (int j = 0; j < war.orderCounts[army]; j++) {
                    if (i != j) {
                        beginTwofold(war, army, i, j);
                    }
                }
            }
            boolean changed = true;
            for (int round = 0; round < RESTS_MOST && changed; round++) {
                changed = false;
                for (int rest = 0; rest < RESTS_MOST; rest++) {
                    changed |= shortest[rest] < FAR_OFF && goOnTwofold(war, army, rest);
                }
            }
            return twofold < FAR_OFF ? twofold : NONE;
        }

        private void beginTwofold(War war, int army, int longer, int shorter) {
            int longSlot = War.slot(army, longer);
            int shortSlot = War.slot(army, shorter);
            int many = war.lengths[shortSlot];
            if (war.agree(longSlot, 0, shortSlot, many)) {
                reach(longer, many, war.lengths[longSlot], war.lengths[longSlot]);
            }
        }

        private boolean goOnTwofold(War war, int army, int rest) {
            int ahead = rest / ORDER_BEATS_MOST;
            int at = rest % ORDER_BEATS_MOST;
            int slot = War.slot(army, ahead);
            int left = war.lengths[slot] - at;
            int length = shortest[rest];
            boolean changed = false;
            for (int k = 0; k < war.orderCounts[army]; k++) {
                int nextSlot = War.slot(army, k);
                int next = war.lengths[nextSlot];
                if (war.agree(slot, at, nextSlot, Math.min(left, next))) {
                    if (next <= left) {
                        changed |= reach(ahead, at + next, war.lengths[slot], length);
                    } else {
                        changed |= reach(k, left, next, length + next - left);
                    }
                }
            }
            return changed;
        }

        /** The rest of an order from a beat on is reached by a row so long; true if none so short was. */
        private boolean reach(int order, int at, int orderLength, int length) {
            if (at >= orderLength) {
                twofold = Math.min(twofold, length);
                return false;
            }
            int rest = order * ORDER_BEATS_MOST + at;
            if (length >= shortest[rest]) {
                return false;
            }
            shortest[rest] = length;
            return true;
        }
    }
}
