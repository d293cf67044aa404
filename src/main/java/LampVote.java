import java.util.Arrays;

/** Votes that float: lamps set on a canal of basins, counted where they lie at dawn. */
public final class LampVote {
    public static final int NONE = -1, BAD = -2, STATE = -3, FULL = -4;
    public static final long NO = Long.MIN_VALUE;

    /** What is asked has no answer: nobody is mayor, no such place, no such set. */
    private static final int NOTHING = -5;
    private static final int OTHER_KIND = -6;
    private static final int FAULTS_FROM = -10;
    private static final int GAME_NONE = -1001, GAME_BAD = -1002;

    private static final int LEAST_PLACES = 2, MOST_PLACES = 7, FIRST_PLACES = 5;
    private static final int MOST_VOTERS = 6, MOST_TIDES = 5, MOST_CLAUSES = 10;
    private static final int MOST_SIGNS = 100, MOST_SEEN = 6, MOST_TALES = 8;
    private static final int MOST_MINUTE = 9999, MOST_STEP = 60;
    private static final int WARDS = 3, KINDS = 7, ACTS = 3, MOST_V = 9;
    private static final int NIGHT = 12, DELAYS = 3, ROW_PLACES = 3, CLOCK = 12;

    private static final int NEXT = 0, SIDE = 1, WARD = 2;
    private static final int KIND = 0, V = 1, HOME = 2, WISH = 3, OIL = 4, ROW = 5;
    private static final int VOTER = 0, UPPER = 1, EARLY = 2, CROWD = 3;
    private static final int SERVED = 4, FRIEND = 5, TOLD = 6;

    private final Canal now = new Canal();
    private final Canal image = new Canal();
    private final Night night = new Night(now);
    private final Acts acts = new Acts(now);
    private final Reader reader = new Reader();
    private boolean imaged;

    public LampVote() {
        imaged = false;
    }

    // ---- tides, places, voters

    public int feed(int sign) {
        if (!within(sign, 0, 127)) {
            return BAD;
        }
        if (now.signs >= MOST_SIGNS) {
            return FULL;
        }
        now.tape[now.signs] = sign;
        now.signs++;
        return now.signs;
    }

    public int tide() {
        if (now.tides >= MOST_TIDES) {
            return FULL;
        }
        int fault = reader.faultOf(now.tape, now.signs);
        now.signs = 0;
        if (fault >= 0) {
            return FAULTS_FROM - fault;
        }
        now.newest = reader.written();
        now.tides++;
        return now.tides - 1;
    }

    public int places(int n) {
        if (!within(n, LEAST_PLACES, MOST_PLACES)) {
            return BAD;
        }
        if (now.voters > 0) {
            return STATE;
        }
        int before = now.places;
        now.dig(n);
        return before;
    }

    public int place(int place, int what, int n) {
        if (!now.hasPlace(place) || !within(what, NEXT, WARD)) {
            return NONE;
        }
        if (!mayBecome(what, n)) {
            return BAD;
        }
        int before = now.place[place][what];
        now.place[place][what] = n;
        return before;
    }

    private boolean mayBecome(int what, int n) {
        if (what == WARD) {
            return within(n, 0, WARDS - 1);
        }
        return now.hasPlace(n) || what == SIDE && n == -1;
    }

    public int at(int place, int what) {
        if (!now.hasPlace(place)) {
            return NONE;
        }
        switch (what) {
            case NEXT:
            case SIDE:
            case WARD:
                return now.place[place][what];
            case 3:
                return now.holdsBack(place, now.minute) ? 1 : 0;
            case 4:
                return now.goal(place, now.minute);
            case 5:
                return now.weight(place, now.minute);
            default:
                return NONE;
        }
    }

    public int voter(int kind, int v, int home, int wish, int oil) {
        if (!within(kind, 0, KINDS - 1) || !now.hasPlace(home)) {
            return NONE;
        }
        if (!within(v, 0, MOST_V) || !within(wish, 0, 1) || !within(oil, 0, NIGHT)) {
            return BAD;
        }
        if (now.voters >= MOST_VOTERS) {
            return FULL;
        }
        int[] made = now.voter[now.voters];
        Arrays.fill(made, 0);
        made[KIND] = kind;
        made[V] = v;
        made[HOME] = home;
        made[WISH] = wish;
        made[OIL] = oil;
        now.voters++;
        return now.voters - 1;
    }

    public int of(int voter, int what) {
        if (!now.hasVoter(voter)) {
            return NONE;
        }
        switch (what) {
            case KIND:
            case V:
            case HOME:
            case WISH:
            case OIL:
                return now.voter[voter][what];
            case 5:
                return now.setsAt(voter);
            case 6:
                return now.delay(voter);
            case 7:
                night.chart();
                return night.burns(voter, now.setsAt(voter));
            default:
                return NONE;
        }
    }

    public int wish(int voter, int n) {
        if (!now.hasVoter(voter)) {
            return NONE;
        }
        if (!within(n, 0, 1)) {
            return BAD;
        }
        int before = now.voter[voter][WISH];
        now.voter[voter][WISH] = n;
        return before;
    }

    public int row(int voter, int k, int place) {
        if (!now.hasVoter(voter) || !within(k, 0, ROW_PLACES - 1) || !now.hasPlace(place)) {
            return NONE;
        }
        int[] told = now.voter[voter];
        if (told[KIND] != TOLD) {
            return STATE;
        }
        int before = told[ROW + k];
        told[ROW + k] = place;
        return before;
    }

    public int minutes(int n) {
        if (!within(n, 0, MOST_STEP)) {
            return BAD;
        }
        if (now.minute + n > MOST_MINUTE) {
            return STATE;
        }
        now.minute += n;
        return now.minute;
    }

    // ---- nights

    public int vote(int what) {
        if (!within(what, 0, 2)) {
            return NONE;
        }
        night.pass();
        return what == 2 ? night.mayor(now.wishes()) : night.votes(what);
    }

    public int lies(int voter, int what) {
        if (!now.hasVoter(voter) || !within(what, 0, 1)) {
            return NONE;
        }
        night.pass();
        if (what == 0) {
            return night.lie[voter];
        }
        return night.worth[voter] > 0 ? 1 : 0;
    }

    public int ward(int ward) {
        if (!within(ward, 0, WARDS - 1)) {
            return NONE;
        }
        night.pass();
        return night.winner(ward);
    }

    public int drifts(int place, int m) {
        if (!now.hasPlace(place)) {
            return NONE;
        }
        if (!within(m, 0, NIGHT)) {
            return BAD;
        }
        night.chart();
        return night.afloat(place, 0, m);
    }

    public int from(int place, int m, int what) {
        if (!now.hasPlace(place) || !within(what, 0, 1)) {
            return NONE;
        }
        if (!within(m, 0, NIGHT)) {
            return BAD;
        }
        int starts = night.startsTo(place, m);
        return what == 0 ? starts : leastOf(starts);
    }

    private static int leastOf(int bits) {
        for (int p = 0; p < MOST_PLACES; p++) {
            if ((bits >> p & 1) == 1) {
                return p;
            }
        }
        return NOTHING;
    }

    public int turns(int what) {
        if (!within(what, 0, 1)) {
            return NONE;
        }
        int turning = night.turning();
        return what == 1 || turning < 0 ? turning : Integer.bitCount(turning);
    }

    public long sways(int voter, int part) {
        if (!now.hasVoter(voter) || !within(part, 0, 1)) {
            return NO;
        }
        int above = night.swayed(voter);
        int below = 1 << now.voters;
        while (below > 1 && above % 2 == 0) {
            above /= 2;
            below /= 2;
        }
        return part == 0 ? above : below;
    }

    public int stick(int wish) {
        return within(wish, 0, 1) ? night.stickFor(wish) : BAD;
    }

    public int set(int voter, int what) {
        if (!now.hasVoter(voter) || !within(what, 0, 1)) {
            return GAME_NONE;
        }
        night.pass();
        int best = night.bestFor(voter);
        if (what == 0) {
            return best;
        }
        night.light(voter, best);
        return night.leadOf(voter);
    }

    public int game(int one, int other, int what) {
        if (!now.hasVoter(one) || !now.hasVoter(other) || !within(what, 0, 1)) {
            return GAME_NONE;
        }
        if (one == other) {
            return GAME_BAD;
        }
        night.pass();
        int best = night.firstOf(one, other);
        return what == 0 ? best : night.leadBehind(one, best, other);
    }

    // ---- seen

    public int see(int place, int lamps) {
        if (place == -1) {
            now.seen = 0;
            return 0;
        }
        if (!now.hasPlace(place)) {
            return NONE;
        }
        if (!within(lamps, 0, MOST_VOTERS)) {
            return BAD;
        }
        if (now.seen >= MOST_SEEN) {
            return FULL;
        }
        now.seenPlace[now.seen] = place;
        now.seenLamps[now.seen] = lamps;
        now.seen++;
        return now.seen;
    }

    public int fits(int voter) {
        return now.hasVoter(voter) ? night.fitting(voter) : NONE;
    }

    public int fair(int what) {
        if (!within(what, 0, 1)) {
            return NONE;
        }
        night.pass();
        int way = night.fairest();
        return what == 0 ? way : night.unfairness(way);
    }

    public int tale(int voter, int m, int place) {
        if (voter == -1) {
            now.tales = 0;
            return 0;
        }
        if (!now.hasVoter(voter) || !now.hasPlace(place)) {
            return NONE;
        }
        if (!within(m, 0, NIGHT)) {
            return BAD;
        }
        if (now.tales >= MOST_TALES) {
            return FULL;
        }
        now.taleVoter[now.tales] = voter;
        now.taleMinute[now.tales] = m;
        now.talePlace[now.tales] = place;
        now.tales++;
        return now.tales;
    }

    public int looked() {
        return night.firstUntrue();
    }

    // ---- acts, the image

    public int act(int voter, int act, int x) {
        acts.forget();
        if (!now.hasVoter(voter) || !within(act, 0, ACTS - 1)) {
            return 0;
        }
        return acts.answer(voter, act, x);
    }

    public int trace(int i) {
        return within(i, 0, acts.kept() - 1) ? acts.bodies[i] : NONE;
    }

    public int as(int voter, int k) {
        if (!now.hasVoter(voter) || !within(k, 0, KINDS - 1)) {
            return NONE;
        }
        int[] taken = now.voter[voter];
        return Acts.isUnder(taken[KIND], k) ? taken[V] : OTHER_KIND;
    }

    public int image() {
        image.copy(now);
        imaged = true;
        return now.voters;
    }

    public int undo() {
        if (!imaged) {
            return STATE;
        }
        now.copy(image);
        return now.voters;
    }

    public int count(int what) {
        switch (what) {
            case 0:
                return now.voters;
            case 1:
                return now.tides;
            case 2:
                return now.seen;
            case 3:
                return now.tales;
            case 4:
                return now.signs;
            case 5:
                return acts.ran;
            default:
                return NONE;
        }
    }

    private static boolean within(int n, int least, int most) {
        return least <= n && n <= most;
    }

    /** All that there is but the image and the trace, so that it is copied as one. */
    private static final class Canal {
        int places;
        final int[][] place = new int[MOST_PLACES][WARD + 1];
        int minute = 0;
        int voters = 0;
        final int[][] voter = new int[MOST_VOTERS][ROW + ROW_PLACES];
        int signs = 0;
        final int[] tape = new int[MOST_SIGNS];
        int tides = 0;
        Tide newest = new Tide();
        int seen = 0;
        final int[] seenPlace = new int[MOST_SEEN];
        final int[] seenLamps = new int[MOST_SEEN];
        int tales = 0;
        final int[] taleVoter = new int[MOST_TALES];
        final int[] taleMinute = new int[MOST_TALES];
        final int[] talePlace = new int[MOST_TALES];
        /** What p, q, m and w are where the newest tide is asked. */
        private final int[] here = new int[Tide.SUBJECTS];

        Canal() {
            dig(FIRST_PLACES);
        }

        void dig(int n) {
            places = n;
            for (int p = 0; p < MOST_PLACES; p++) {
                place[p][NEXT] = p + 1 < n ? p + 1 : p;
                place[p][SIDE] = -1;
                place[p][WARD] = 0;
            }
        }

        void copy(Canal from) {
            places = from.places;
            minute = from.minute;
            voters = from.voters;
            signs = from.signs;
            tides = from.tides;
            newest = from.newest;
            seen = from.seen;
            tales = from.tales;
            copyRows(from.place, place);
            copyRows(from.voter, voter);
            copyRow(from.tape, tape);
            copyRow(from.seenPlace, seenPlace);
            copyRow(from.seenLamps, seenLamps);
            copyRow(from.taleVoter, taleVoter);
            copyRow(from.taleMinute, taleMinute);
            copyRow(from.talePlace, talePlace);
        }

        private static void copyRows(int[][] from, int[][] to) {
            for (int i = 0; i < from.length && i < to.length; i++) {
                copyRow(from[i], to[i]);
            }
        }

        private static void copyRow(int[] from, int[] to) {
            System.arraycopy(from, 0, to, 0, Math.min(from.length, to.length));
        }

        boolean hasPlace(int p) {
            return 0 <= p && p < places;
        }

        boolean hasVoter(int i) {
            return 0 <= i && i < voters;
        }

        private int[] look(int p, int at) {
            here[Tide.P] = p;
            here[Tide.Q] = place[p][NEXT];
            here[Tide.M] = at % CLOCK;
            here[Tide.W] = place[p][WARD];
            return here;
        }

        boolean holdsBack(int p, int at) {
            return newest.any(Tide.HOLD, look(p, at));
        }

        int goal(int p, int at) {
            int[] looked = look(p, at);
            if (newest.any(Tide.HOLD, looked)) {
                return p;
            }
            int side = place[p][SIDE];
            return hasPlace(side) && newest.any(Tide.SIDEWAYS, looked) ? side : place[p][NEXT];
        }

        int weight(int p, int at) {
            return 1 + newest.sum(Tide.WEIGH, look(p, at));
        }

        /** What the tide adds to the oil of a lamp that is set there then. */
        int filled(int p, int at) {
            return newest.sum(Tide.FILL, look(p, at));
        }

        int delay(int i) {
            int kind = voter[i][KIND];
            return kind == EARLY || kind == FRIEND ? 0 : voter[i][V] % DELAYS;
        }

        int wishes() {
            int bits = 0;
            for (int i = 0; i < voters; i++) {
                bits |= voter[i][WISH] << i;
            }
            return bits;
        }

        int setsAt(int i) {
            int home = voter[i][HOME];
            switch (voter[i][KIND]) {
                case UPPER:
                    return upstream(home);
                case SERVED:
                    return place[home][NEXT] == home ? home : upstream(home);
                case CROWD:
                    return crowded();
                case FRIEND:
                    return voters > 0 ? voter[voter[i][V] % voters][HOME] : home;
                case TOLD:
                    return voter[i][ROW + minute % ROW_PLACES];
                default:
                    return home;
            }
        }

        private int upstream(int home) {
            for (int p = 0; p < places; p++) {
                if (p != home && place[p][NEXT] == home) {
                    return p;
                }
            }
            return home;
        }

        private int crowded() {
            int best = 0;
            for (int p = 1; p < places; p++) {
                if (living(p) > living(best)) {
                    best = p;
                }
            }
            return best;
        }

        private int living(int p) {
            int many = 0;
            for (int i = 0; i < voters; i++) {
                if (voter[i][HOME] == p) {
                    many++;
                }
            }
            return many;
        }
    }

    /**
     * Clauses as they were read; each one's E stands in the code behind that of the clause ahead.
     * A test's part is its subject and, as bits, the numbers of the subject with which it is so.
     */
    private static final class Tide {
        static final int SIDEWAYS = 0, HOLD = 1, FILL = 2, WEIGH = 3;
        static final int P = 0, Q = 1, M = 2, W = 3, SUBJECTS = 4;
        /** How many bits a test has: no subject comes to more than a minute of the clock. */
        static final int BITS = CLOCK;
        /** Parts of the code that are no test: the tighter one binds, the greater it is. */
        static final int NOT = -1, AND = -2, OR = -3;

        private final int[] words;
        private final int[] amounts;
        private final int[] ends;
        private final int[] code;

        /** Of no clauses. */
        Tide() {
            words = new int[0];
            amounts = words;
            ends = words;
            code = words;
        }

        Tide(int[] words, int[] amounts, int[] ends, int[] code) {
            this.words = words;
            this.amounts = amounts;
            this.ends = ends;
            this.code = code;
        }

        boolean any(int word, int[] here) {
            for (int c = 0; c < words.length; c++) {
                if (words[c] == word && holds(c, here)) {
                    return true;
                }
            }
            return false;
        }

        int sum(int word, int[] here) {
            int sum = 0;
            for (int c = 0; c < words.length; c++) {
                if (words[c] == word && holds(c, here)) {
                    sum += amounts[c];
                }
            }
            return sum;
        }

        /** The answers that still wait for their & or | are bits, the latest one lowest. */
        private boolean holds(int clause, int[] here) {
            long answers = 0;
            int since = clause > 0 ? ends[clause - 1] : 0;
            for (int i = since; i < ends[clause] && i < code.length; i++) {
                int part = code[i];
                if (part == NOT) {
                    answers ^= 1;
                } else if (part == AND) {
                    answers = answers >> 1 & (answers | ~1L);
                } else if (part == OR) {
                    answers = answers >> 1 | answers & 1;
                } else {
                    answers = answers << 1 | part >> here[(part >> BITS) % SUBJECTS] & 1;
                }
            }
            return (answers & 1) != 0;
        }
    }

    /** Reads a tide sign by sign, so that the sign which it refuses is the fault. */
    private static final class Reader {
        /** What is due next. */
        private static final int WORD = 0, LETTER = 1, AMOUNT = 2, AMOUNT_MORE = 3, FACTOR = 4;
        private static final int RELATION = 5, NUMBER = 6, NUMBER_MORE = 7, JOINT = 8;
        /** The words of the clauses, each with its blank, in the order of their numbers. */
        private static final String WORDS = "side hold oil weigh ";
        private static final int[] STARTS = {0, 5, 10, 14};
        private static final String SUBJECTS = "pqmw", RELATIONS = "<=>";
        /** Stands among what is pending, never in the code. */
        private static final int OPENED = -4;
        private static final int MOST_OPEN = 5, WHOLE = -1;
        /** Those that are open, and an & and a | ahead of each and behind the last. */
        private static final int MOST_PENDING = MOST_OPEN + 2 * (MOST_OPEN + 1);

        private final int[] words = new int[MOST_CLAUSES];
        private final int[] amounts = new int[MOST_CLAUSES];
        private final int[] ends = new int[MOST_CLAUSES];
        private final int[] code = new int[MOST_SIGNS];
        private final int[] pending = new int[MOST_PENDING];
        private int clauses;
        private int codes;
        private int pended;
        private int open;
        private int due;
        private int word;
        private int letter;
        private int subject;
        private int relation;
        private int number;

        int faultOf(int[] tape, int signs) {
            clauses = 0;
            codes = 0;
            pended = 0;
            open = 0;
            due = WORD;
            for (int i = 0; i < signs && i < tape.length; i++) {
                if (!takes(tape[i])) {
                    return i;
                }
            }
            return isWhole() ? WHOLE : signs;
        }

        Tide written() {
            return new Tide(Arrays.copyOf(words, clauses), Arrays.copyOf(amounts, clauses),
                    Arrays.copyOf(ends, clauses), Arrays.copyOf(code, codes));
        }

        private boolean takes(int sign) {
            switch (due) {
                case WORD:
                    return takesWord(sign);
                case LETTER:
                    return takesLetter(sign);
                case AMOUNT:
                    return takesDigit(sign, AMOUNT_MORE);
                case AMOUNT_MORE:
                    return sign == ' ' ? takesBlank() : takesSecondDigit(sign);
                case FACTOR:
                    return takesFactor(sign);
                case RELATION:
                    return takesRelation(sign);
                case NUMBER:
                    return takesDigit(sign, NUMBER_MORE);
                case NUMBER_MORE:
                    if (takesSecondDigit(sign)) {
                        return true;
                    }
                    endTest();
                    return takesJoint(sign);
                default:
                    return takesJoint(sign);
            }
        }

        private boolean takesWord(int sign) {
            for (int w = 0; w < STARTS.length; w++) {
                if (WORDS.charAt(STARTS[w]) == sign) {
                    word = w;
                    letter = STARTS[w] + 1;
                    due = LETTER;
                    return true;
                }
            }
            return false;
        }

        private boolean takesLetter(int sign) {
            if (letter >= WORDS.length() || WORDS.charAt(letter) != sign) {
                return false;
            }
            letter++;
            if (sign == ' ') {
                due = word == Tide.FILL || word == Tide.WEIGH ? AMOUNT : FACTOR;
                return opensClause();
            }
            return true;
        }

        private boolean opensClause() {
            if (clauses >= MOST_CLAUSES) {
                return false;
            }
            words[clauses] = word;
            amounts[clauses] = 0;
            return true;
        }

        private boolean takesDigit(int sign, int then) {
            if (sign < '0' || sign > '9') {
                return false;
            }
            number = sign - '0';
            due = then;
            return true;
        }

        private boolean takesSecondDigit(int sign) {
            if (sign < '0' || sign > '9' || number == 0 || number > 9) {
                return false;
            }
            number = number * 10 + sign - '0';
            return true;
        }

        private boolean takesBlank() {
            amounts[clauses] = number;
            due = FACTOR;
            return true;
        }

        private boolean takesFactor(int sign) {
            if (sign == '!' || sign == '(') {
                if (open >= MOST_OPEN) {
                    return false;
                }
                open++;
                pend(sign == '!' ? Tide.NOT : OPENED);
                return true;
            }
            subject = SUBJECTS.indexOf((char) sign);
            due = RELATION;
            return subject >= 0;
        }

        private boolean takesRelation(int sign) {
            relation = RELATIONS.indexOf((char) sign);
            due = NUMBER;
            return relation >= 0;
        }

        private boolean isSo(int found) {
            switch (relation) {
                case 0:
                    return found < number;
                case 1:
                    return found == number;
                default:
                    return found > number;
            }
        }

        private void endTest() {
            int so = 0;
            for (int found = 0; found < Tide.BITS; found++) {
                if (isSo(found)) {
                    so |= 1 << found;
                }
            }
            write(subject << Tide.BITS | so);
            due = JOINT;
        }

        private boolean takesJoint(int sign) {
            switch (sign) {
                case '&':
                    return takesOperator(Tide.AND);
                case '|':
                    return takesOperator(Tide.OR);
                case ')':
                    return takesClosing();
                case ';':
                    due = WORD;
                    return endsClause() && clauses < MOST_CLAUSES;
                default:
                    return false;
            }
        }

        private boolean takesOperator(int operator) {
            writePending(operator);
            pend(operator);
            due = FACTOR;
            return true;
        }

        private boolean takesClosing() {
            writePending(Tide.OR);
            if (pended == 0) {
                return false;
            }
            pended--;
            open--;
            return true;
        }

        private boolean isWhole() {
            if (due == NUMBER_MORE) {
                endTest();
            }
            return due == JOINT && endsClause();
        }

        private boolean endsClause() {
            writePending(Tide.OR);
            if (pended > 0 || clauses >= MOST_CLAUSES) {
                return false;
            }
            ends[clauses] = codes;
            clauses++;
            return true;
        }

        private void pend(int part) {
            if (pended < MOST_PENDING) {
                pending[pended] = part;
                pended++;
            }
        }

        /** What is pending and binds as tight as the told one, or tighter, goes into the code, the latest first. */
        private void writePending(int tight) {
            for (; pended > 0 && pending[pended - 1] >= tight; pended--) {
                if (pending[pended - 1] == Tide.NOT) {
                    open--;
                }
                write(pending[pended - 1]);
            }
        }

        private void write(int part) {
            if (codes < MOST_SIGNS) {
                code[codes] = part;
                codes++;
            }
        }
    }

    /** The night from the canal's minute on; its rows are used again by every question. */
    private static final class Night {
        private static final int NOWHERE = -1;

        private final Canal canal;
        /** Where a lamp goes, by minutes into the night and by place. */
        private final int[][] goal = new int[NIGHT][MOST_PLACES];
        /** What the tide adds to a lamp's oil, by its delay and by place. */
        private final int[][] filled = new int[DELAYS][MOST_PLACES];
        private final int[] weight = new int[MOST_PLACES];
        private final int[] lamps = new int[MOST_PLACES];
        private int stick = NOWHERE;
        final int[] lie = new int[MOST_VOTERS];
        /** What a lamp counts for; 0 if it doesn't count. */
        final int[] worth = new int[MOST_VOTERS];

        Night(Canal canal) {
            this.canal = canal;
        }

        void chart() {
            for (int p = 0; p < canal.places; p++) {
                for (int t = 0; t < NIGHT; t++) {
                    goal[t][p] = canal.goal(p, canal.minute + t);
                }
                for (int delay = 0; delay < DELAYS; delay++) {
                    filled[delay][p] = canal.filled(p, canal.minute + delay);
                }
                weight[p] = canal.weight(p, canal.minute + NIGHT);
            }
        }

        int afloat(int place, int since, int till) {
            int p = place;
            for (int t = since; t < till && t < NIGHT && p != stick; t++) {
                p = goal[t][p];
            }
            return p;
        }

        int burns(int voter, int place) {
            int oil = canal.voter[voter][OIL] + filled[canal.delay(voter)][place];
            return Math.min(oil, NIGHT);
        }

        /** The voter's lamp, set at the place, comes to lie. */
        void light(int voter, int place) {
            int delay = canal.delay(voter);
            int dark = delay + burns(voter, place);
            lie[voter] = afloat(place, delay, dark);
            boolean counts = dark >= NIGHT || canal.voter[voter][KIND] == TOLD;
            worth[voter] = counts ? weight[lie[voter]] : 0;
        }

        private void lightAll() {
            for (int i = 0; i < canal.voters; i++) {
                light(i, canal.setsAt(i));
            }
        }

        void pass() {
            chart();
            lightAll();
        }

        int votes(int wish) {
            int sum = 0;
            for (int i = 0; i < canal.voters; i++) {
                if (canal.voter[i][WISH] == wish) {
                    sum += worth[i];
                }
            }
            return sum;
        }

        /** How much more wish 1 has than wish 0, if the voters wish as the bits tell. */
        private int lead(int wishes) {
            int lead = 0;
            for (int i = 0; i < canal.voters; i++) {
                lead += (wishes >> i & 1) == 1 ? worth[i] : -worth[i];
            }
            return lead;
        }

        private static int winnerBy(int lead) {
            return lead > 0 ? 1 : lead < 0 ? 0 : NOTHING;
        }

        int mayor(int wishes) {
            return winnerBy(lead(wishes));
        }

        int leadOf(int voter) {
            int lead = lead(canal.wishes());
            return canal.voter[voter][WISH] == 1 ? lead : -lead;
        }

        int winner(int ward) {
            int lead = 0;
            for (int i = 0; i < canal.voters; i++) {
                if (canal.place[lie[i]][WARD] == ward) {
                    lead += canal.voter[i][WISH] == 1 ? worth[i] : -worth[i];
                }
            }
            return winnerBy(lead);
        }

        int startsTo(int place, int m) {
            chart();
            int bits = 0;
            for (int p = 0; p < canal.places; p++) {
                if (afloat(p, 0, m) == place) {
                    bits |= 1 << p;
                }
            }
            return bits;
        }

        int turning() {
            pass();
            int wishes = canal.wishes();
            int mayor = mayor(wishes);
            int best = NOTHING;
            int fewest = canal.voters + 1;
            for (int set = 1; set < 1 << canal.voters; set++) {
                int then = mayor(wishes ^ set);
                boolean turned = then != mayor && then != NOTHING;
                if (turned && Integer.bitCount(set) < fewest) {
                    best = set;
                    fewest = Integer.bitCount(set);
                }
            }
            return best;
        }

        int swayed(int voter) {
            pass();
            int ways = 0;
            for (int wishes = 0; wishes < 1 << canal.voters; wishes++) {
                if (mayor(wishes) != mayor(wishes ^ 1 << voter)) {
                    ways++;
                }
            }
            return ways;
        }

        int stickFor(int wish) {
            chart();
            int wishes = canal.wishes();
            int found = NOTHING;
            for (int p = 0; p < canal.places && found == NOTHING; p++) {
                stick = p;
                lightAll();
                if (mayor(wishes) == wish) {
                    found = p;
                }
            }
            stick = NOWHERE;
            return found;
        }

        int bestFor(int voter) {
            int best = 0;
            int most = 0;
            for (int p = 0; p < canal.places; p++) {
                light(voter, p);
                int lead = leadOf(voter);
                if (p == 0 || lead > most) {
                    most = lead;
                    best = p;
                }
            }
            return best;
        }

        int leadBehind(int one, int place, int other) {
            light(one, place);
            light(other, bestFor(other));
            return leadOf(one);
        }

        int firstOf(int one, int other) {
            int best = 0;
            int most = 0;
            for (int p = 0; p < canal.places; p++) {
                int lead = leadBehind(one, p, other);
                if (p == 0 || lead > most) {
                    most = lead;
                    best = p;
                }
            }
            return best;
        }

        private void countLamps() {
            Arrays.fill(lamps, 0);
            for (int i = 0; i < canal.voters; i++) {
                lamps[lie[i]]++;
            }
        }

        int fitting(int voter) {
            pass();
            int bits = 0;
            for (int p = 0; p < canal.places; p++) {
                light(voter, p);
                countLamps();
                if (isAsSeen()) {
                    bits |= 1 << p;
                }
            }
            return bits;
        }

        private boolean isAsSeen() {
            for (int s = 0; s < canal.seen; s++) {
                if (lamps[canal.seenPlace[s]] != canal.seenLamps[s]) {
                    return false;
                }
            }
            return true;
        }

        int fairest() {
            int best = 0;
            for (int way = 2; way < 1 << canal.places; way += 2) {
                if (unfairness(way) < unfairness(best)) {
                    best = way;
                }
            }
            return best;
        }

        int unfairness(int way) {
            int more = 0;
            for (int i = 0; i < canal.voters; i++) {
                more += (way >> lie[i] & 1) == 1 ? 1 : -1;
            }
            return Math.abs(more);
        }

        int firstUntrue() {
            chart();
            for (int t = 0; t < canal.tales; t++) {
                if (placeAfter(canal.taleVoter[t], canal.taleMinute[t]) != canal.talePlace[t]) {
                    return t;
                }
            }
            return NOTHING;
        }

        private int placeAfter(int voter, int m) {
            int start = canal.setsAt(voter);
            int delay = canal.delay(voter);
            return afloat(start, delay, Math.min(m, delay + burns(voter, start)));
        }
    }

    /** What the voters' kinds do, and the trace of the bodies that ran. */
    private static final class Acts {
        private static final int SETS = 0, BURNS = 1, TELLS = 2;
        private static final int[] ABOVE = {-1, VOTER, VOTER, VOTER, UPPER, EARLY, CROWD};
        /** By kind and act; 0 where the kind has no body of its own. */
        private static final int[] BODIES = {
            1, 2, 3,
            11, 0, 0,
            0, 21, 0,
            0, 0, 31,
            0, 0, 41,
            51, 0, 0,
            0, 61, 0
        };
        private static final int MOST_KEPT = 20, MOST_DEEP = 20;

        private final Canal canal;
        final int[] bodies = new int[MOST_KEPT];
        int ran = 0;

        Acts(Canal canal) {
            this.canal = canal;
        }

        void forget() {
            ran = 0;
        }

        int kept() {
            return Math.min(ran, MOST_KEPT);
        }

        static boolean isUnder(int kind, int k) {
            int above = kind;
            for (int step = 0; step < KINDS && above >= 0 && above != k; step++) {
                above = ABOVE[above];
            }
            return above == k;
        }

        private static int doerOf(int kind, int act) {
            int doer = kind;
            for (int step = 0; step < KINDS && doer > VOTER && BODIES[doer * ACTS + act] == 0; step++) {
                doer = ABOVE[doer];
            }
            return doer;
        }

        int answer(int voter, int act, int x) {
            return run(voter, canal.voter[voter][KIND], act, x, 0);
        }

        /** The act as the kind, or the next one above it with such a body, does it. */
        private int run(int voter, int kind, int act, int x, int deep) {
            int doer = doerOf(kind, act);
            if (doer < VOTER || deep > MOST_DEEP) {
                return 0;
            }
            int body = BODIES[doer * ACTS + act];
            begin(body);
            int own = canal.voter[voter][KIND];
            int above = ABOVE[doer];
            int v = canal.voter[voter][V];
            switch (body) {
                case 1:
                    return x + voter;
                case 2:
                    return run(voter, own, SETS, x, deep + 1) - v;
                case 3:
                    return run(voter, own, BURNS, x, deep + 1) * 2;
                case 11:
                    return run(voter, above, SETS, x * 3, deep + 1);
                case 21:
                    return -run(voter, above, BURNS, x, deep + 1);
                case 31:
                    return run(voter, above, TELLS, x, deep + 1) ^ 7;
                case 41:
                    return run(voter, above, TELLS, x - 1, deep + 1) + run(voter, own, SETS, 2, deep + 1);
                case 51:
                    return run(voter, above, SETS, x, deep + 1) ^ voter;
                case 61:
                    return run(voter, above, BURNS, x, deep + 1) + v;
                default:
                    return 0;
            }
        }

        private void begin(int body) {
            if (ran < MOST_KEPT) {
                bodies[ran] = body;
            }
            ran++;
        }
    }
}
