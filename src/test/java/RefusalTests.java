import java.util.Arrays;
import java.util.function.Supplier;

/**
 * Refusals: of several the first one told; they change nothing. What is only asked changes nothing
 * either. Each refused call is made on an object of which there is a twin without that call: all
 * that can be asked of both must be alike then, and behind an undo() too.
 */
public final class RefusalTests {
    private static final int NONE = -1, BAD = -2, STATE = -3, FULL = -4, NO_GAME = -1001, SAME = -1002;
    private static final int LOW = Integer.MIN_VALUE, HIGH = Integer.MAX_VALUE;
    /** A hundred signs that are a tide. */
    private static final String LONGEST = "weigh 5 " + "p=1|".repeat(22) + "p=10";
    /** All calls that make a state are fewer. */
    private static final int MOST_AHEAD = 250;
    private static int wrong = 0;
    private static int longest = 0;
    private static String stateName;
    private static Supplier<LampVote> state;
    private static long[] untouched;

    private interface Call {
        long on(LampVote x);
    }

    public static void main(String[] args) {
        bare();
        busy();
        full();
        late();
        acts();
        asked();
        checkLength();
        System.out.println(wrong == 0 ? "RefusalTests: all answers are as due" : wrong + " answers are not as due");
        if (wrong != 0) {
            System.exit(1);
        }
    }

    private static void fault(String text) {
        wrong++;
        System.out.println(stateName + ": " + text);
    }

    private static void checkLength() {
        stateName = "calls of one object";
        if (longest + MOST_AHEAD > 512) {
            fault("too many, " + longest);
        }
    }

    // ---- the states

    private static void type(LampVote x, String text) {
        for (int i = 0; i < text.length(); i++) {
            x.feed(text.charAt(i));
        }
    }

    private static void tide(LampVote x, String text) {
        type(x, text);
        x.tide();
    }

    /** Three voters, room for more of all; the image is of another canal, with one voter. */
    private static LampVote some() {
        LampVote x = new LampVote();
        x.place(0, 1, 3);
        x.voter(6, 4, 1, 1, 7);
        x.row(0, 0, 2);
        x.see(2, 1);
        x.tale(0, 1, 2);
        type(x, "hold p=");
        x.minutes(2);
        x.image();
        x.place(1, 2, 1);
        x.place(2, 1, 0);
        x.place(3, 2, 2);
        tide(x, "4");
        tide(x, "weigh 3 p=2;oil 2 m<6;side m=7");
        x.voter(1, 3, 3, 0, 12);
        x.voter(4, 5, 2, 1, 10);
        x.row(0, 1, 3);
        x.row(0, 2, 4);
        x.minutes(3);
        x.wish(0, 0);
        x.see(4, 2);
        x.tale(1, 12, 4);
        x.tale(2, 0, 3);
        type(x, "weigh 8 p=");
        x.act(2, 2, 9);
        return x;
    }

    /** Six voters, five tides, six seen, eight tales, a hundred signs. */
    private static LampVote filled() {
        LampVote x = new LampVote();
        tide(x, "oil 5 m<4");
        tide(x, "hold p=2");
        tide(x, "side w=0");
        tide(x, "oil 9 p=3");
        x.voter(6, 1, 0, 0, 3);
        x.see(1, 1);
        x.tale(0, 3, 3);
        x.image();
        tide(x, "weigh 6 p=2");
        for (int kind = 5; kind >= 1; kind--) {
            x.voter(kind, kind + 3, kind - 1, kind % 2, 12 - kind);
        }
        x.row(0, 0, 2);
        x.see(-1, 0);
        x.tale(-1, 0, 0);
        int[] lamps = new int[5];
        for (int i = 0; i < 6; i++) {
            int end = x.lies(i, 0);
            lamps[end]++;
            x.tale(i, 12, end);
        }
        x.tale(0, 0, x.of(0, 5));
        x.tale(1, 0, x.of(1, 5));
        for (int s = 0; s < 6; s++) {
            x.see(s % 5, lamps[s % 5]);
        }
        type(x, LONGEST);
        x.act(2, 2, 9);
        return x;
    }

    /** A tape of a hundred signs, and room for its tide. */
    private static LampVote longTape() {
        LampVote x = new LampVote();
        tide(x, "weigh 6 p=2");
        x.voter(0, 0, 1, 0, 12);
        x.image();
        type(x, LONGEST);
        return x;
    }

    /** Minute 9999 is near; a voter and an image. */
    private static LampVote towardsTheEnd(int minute) {
        LampVote x = new LampVote();
        x.voter(6, 2, 3, 1, 3);
        x.row(0, 1, 2);
        x.row(0, 2, 3);
        tide(x, "weigh 7 m=3");
        x.image();
        for (int at = 0; at < minute; at += 60) {
            x.minutes(Math.min(60, minute - at));
        }
        return x;
    }

    // ---- what is looked at

    private static int put(long[] row, int at, long answer) {
        row[at] = answer;
        return at + 1;
    }

    /** All that the object tells of itself, within some hundred and fifty calls. */
    private static int tell(LampVote x, long[] row, int from) {
        int i = from;
        for (int p = 0; p < 6; p++) {
            for (int what = 0; what < 6; what++) {
                i = put(row, i, x.at(p, what));
            }
        }
        int voters = x.count(0);
        for (int v = 0; v < voters; v++) {
            for (int what = 0; what < 8; what++) {
                i = put(row, i, x.of(v, what));
            }
            i = put(row, i, x.lies(v, 0));
            i = put(row, i, x.fits(v));
            i = put(row, i, x.as(v, 3));
            i = put(row, i, x.set(v, 1));
            i = put(row, i, x.sways(v, 0));
        }
        i = put(row, i, x.stick(0));
        i = put(row, i, x.stick(1));
        i = put(row, i, x.drifts(0, 12));
        for (int what = 0; what < 3; what++) {
            i = put(row, i, x.vote(what));
            i = put(row, i, x.ward(what));
        }
        i = put(row, i, x.turns(1));
        i = put(row, i, x.fair(1));
        i = put(row, i, x.looked());
        for (int b = 0; b < 8; b++) {
            i = put(row, i, x.trace(b));
        }
        for (int what = 0; what < 6; what++) {
            i = put(row, i, x.count(what));
        }
        return put(row, i, x.minutes(0));
    }

    /** What is hidden comes to light: rows by minutes, the tape by a tide, the image by undo. */
    private static int bringToLight(LampVote x, long[] row, int from) {
        int i = from;
        for (int step = 0; step < 2; step++) {
            i = put(row, i, x.minutes(1));
            i = put(row, i, x.of(0, 5));
        }
        i = put(row, i, x.feed('1'));
        i = put(row, i, x.tide());
        i = put(row, i, x.at(1, 5));
        i = put(row, i, x.at(2, 5));
        i = put(row, i, x.undo());
        i = put(row, i, x.tide());
        return i;
    }

    private static long[] all(LampVote x) {
        long[] row = new long[600];
        int half = tell(x, row, 0);
        int i = bringToLight(x, row, half);
        if (x.count(0) > 0) {
            i = put(row, i, x.of(0, 5));
            i = put(row, i, x.lies(0, 0));
            i = put(row, i, x.fits(0));
            i = put(row, i, x.looked());
        }
        for (int p = 0; p < 6; p++) {
            i = put(row, i, x.at(p, 4));
            i = put(row, i, x.at(p, 2));
        }
        for (int what = 0; what < 6; what++) {
            i = put(row, i, x.count(what));
        }
        i = put(row, i, x.minutes(0));
        longest = Math.max(longest, i);
        return Arrays.copyOf(row, i);
    }

    private static void in(String name, Supplier<LampVote> made) {
        stateName = name;
        state = made;
        untouched = all(made.get());
    }

    private static void refused(long want, String name, Call call) {
        LampVote x = state.get();
        long got = call.on(x);
        if (got != want) {
            fault(name + " answered " + got + ", due is " + want);
        }
        unchanged(name, x);
    }

    private static void unchanged(String name, LampVote x) {
        if (!Arrays.equals(untouched, all(x))) {
            fault(name + " has changed something");
        }
    }

    // ---- refusals, by state

    private static void bare() {
        in("a new object", LampVote::new);
        refused(BAD, "feed(-1)", x -> x.feed(-1));
        refused(BAD, "feed(128)", x -> x.feed(128));
        refused(BAD, "places(1)", x -> x.places(1));
        refused(BAD, "places(8)", x -> x.places(8));
        refused(NONE, "place(5, 2, 1)", x -> x.place(5, 2, 1));
        refused(BAD, "place(0, 2, 3)", x -> x.place(0, 2, 3));
        refused(NONE, "voter(7, ..)", x -> x.voter(7, 0, 0, 0, 0));
        refused(NONE, "voter, home 5", x -> x.voter(0, 0, 5, 0, 0));
        refused(BAD, "voter, v 10", x -> x.voter(0, 10, 0, 0, 0));
        refused(NONE, "of(0, 0)", x -> x.of(0, 0));
        refused(NONE, "wish(0, 1)", x -> x.wish(0, 1));
        refused(NONE, "row(0, 0, 0)", x -> x.row(0, 0, 0));
        refused(NONE, "lies(0, 0)", x -> x.lies(0, 0));
        refused(LampVote.NO, "sways(0, 0)", x -> x.sways(0, 0));
        refused(NO_GAME, "set(0, 0)", x -> x.set(0, 0));
        refused(NO_GAME, "game(0, 1, 0)", x -> x.game(0, 1, 0));
        refused(NO_GAME, "game(0, 0, 0): no such voter, ahead of two being one", x -> x.game(0, 0, 0));
        refused(NONE, "fits(0)", x -> x.fits(0));
        refused(NONE, "tale(0, 0, 0)", x -> x.tale(0, 0, 0));
        refused(NONE, "trace(0)", x -> x.trace(0));
        refused(NONE, "as(0, 0)", x -> x.as(0, 0));
        refused(0, "act(0, 0, 1)", x -> x.act(0, 0, 1));
        refused(STATE, "undo()", LampVote::undo);
    }

    private static void busy() {
        in("some of all", RefusalTests::some);
        busyTides();
        busyVoters();
        busyAsked();
        busyTold();
    }

    private static void busyTides() {
        refused(BAD, "feed(-1)", x -> x.feed(-1));
        refused(BAD, "feed(128)", x -> x.feed(128));
        refused(BAD, "feed(LOW)", x -> x.feed(LOW));
        refused(BAD, "feed(HIGH)", x -> x.feed(HIGH));
        refused(STATE, "places(5): there are voters", x -> x.places(5));
        refused(STATE, "places(2): there are voters", x -> x.places(2));
        refused(STATE, "places(7): there are voters", x -> x.places(7));
        refused(BAD, "places(1): BAD is ahead of STATE", x -> x.places(1));
        refused(BAD, "places(8): BAD is ahead of STATE", x -> x.places(8));
        refused(NONE, "place(-1, 0, 1)", x -> x.place(-1, 0, 1));
        refused(NONE, "place(5, 0, 1)", x -> x.place(5, 0, 1));
        refused(NONE, "place(6, 1, -1)", x -> x.place(6, 1, -1));
        refused(NONE, "place(0, -1, 1)", x -> x.place(0, -1, 1));
        refused(NONE, "place(0, 3, 1)", x -> x.place(0, 3, 1));
        refused(NONE, "place(5, 0, 5): NONE (place) is ahead of BAD", x -> x.place(5, 0, 5));
        refused(NONE, "place(0, 3, 9): NONE (what) is ahead of BAD", x -> x.place(0, 3, 9));
        refused(BAD, "place(0, 0, -1): NEXT is never none", x -> x.place(0, 0, -1));
        refused(BAD, "place(0, 0, 5)", x -> x.place(0, 0, 5));
        refused(BAD, "place(0, 1, -2)", x -> x.place(0, 1, -2));
        refused(BAD, "place(0, 1, 5)", x -> x.place(0, 1, 5));
        refused(BAD, "place(0, 2, -1)", x -> x.place(0, 2, -1));
        refused(BAD, "place(0, 2, 3)", x -> x.place(0, 2, 3));
        refused(NONE, "at(5, 0)", x -> x.at(5, 0));
        refused(NONE, "at(0, 6)", x -> x.at(0, 6));
        refused(BAD, "minutes(-1)", x -> x.minutes(-1));
        refused(BAD, "minutes(61)", x -> x.minutes(61));
        refused(BAD, "minutes(LOW)", x -> x.minutes(LOW));
        refused(BAD, "minutes(HIGH)", x -> x.minutes(HIGH));
    }

    private static void busyVoters() {
        refused(NONE, "voter(-1, ..)", x -> x.voter(-1, 0, 0, 0, 0));
        refused(NONE, "voter(7, ..)", x -> x.voter(7, 0, 0, 0, 0));
        refused(NONE, "voter, home -1", x -> x.voter(0, 0, -1, 0, 0));
        refused(NONE, "voter, home 5", x -> x.voter(0, 0, 5, 0, 0));
        refused(NONE, "voter, kind 7, v 10: NONE is ahead of BAD", x -> x.voter(7, 10, 0, 0, 0));
        refused(NONE, "voter, home 5, v 10: NONE is ahead of BAD", x -> x.voter(0, 10, 5, 0, 0));
        refused(NONE, "voter, home 5, wish 2: NONE is ahead of BAD", x -> x.voter(0, 0, 5, 2, 0));
        refused(NONE, "voter, home 5, oil 13: NONE is ahead of BAD", x -> x.voter(0, 0, 5, 0, 13));
        refused(BAD, "voter, v -1", x -> x.voter(0, -1, 0, 0, 0));
        refused(BAD, "voter, v 10", x -> x.voter(0, 10, 0, 0, 0));
        refused(BAD, "voter, wish -1", x -> x.voter(0, 0, 0, -1, 0));
        refused(BAD, "voter, wish 2", x -> x.voter(0, 0, 0, 2, 0));
        refused(BAD, "voter, oil -1", x -> x.voter(0, 0, 0, 0, -1));
        refused(BAD, "voter, oil 13", x -> x.voter(0, 0, 0, 0, 13));
        refused(NONE, "of(3, 0)", x -> x.of(3, 0));
        refused(NONE, "of(0, 8)", x -> x.of(0, 8));
        refused(NONE, "wish(3, 0)", x -> x.wish(3, 0));
        refused(NONE, "wish(-1, 0)", x -> x.wish(-1, 0));
        refused(BAD, "wish(0, 2)", x -> x.wish(0, 2));
        refused(BAD, "wish(0, -1)", x -> x.wish(0, -1));
        refused(NONE, "wish(3, 2): NONE is ahead of BAD", x -> x.wish(3, 2));
        refused(NONE, "row(3, 0, 1)", x -> x.row(3, 0, 1));
        refused(NONE, "row(0, -1, 1)", x -> x.row(0, -1, 1));
        refused(NONE, "row(0, 3, 1)", x -> x.row(0, 3, 1));
        refused(NONE, "row(0, 0, -1): a row's place is never none", x -> x.row(0, 0, -1));
        refused(NONE, "row(0, 0, 5)", x -> x.row(0, 0, 5));
        refused(STATE, "row(1, 0, 1): another kind", x -> x.row(1, 0, 1));
        refused(STATE, "row(2, 2, 4): another kind", x -> x.row(2, 2, 4));
        refused(NONE, "row(1, 3, 1): NONE (k) is ahead of STATE", x -> x.row(1, 3, 1));
        refused(NONE, "row(1, 0, 5): NONE (place) is ahead of STATE", x -> x.row(1, 0, 5));
    }

    private static void busyAsked() {
        refused(NONE, "vote(3)", x -> x.vote(3));
        refused(NONE, "lies(3, 0)", x -> x.lies(3, 0));
        refused(NONE, "lies(0, 2)", x -> x.lies(0, 2));
        refused(NONE, "ward(3)", x -> x.ward(3));
        refused(NONE, "drifts(5, 0)", x -> x.drifts(5, 0));
        refused(BAD, "drifts(0, 13)", x -> x.drifts(0, 13));
        refused(BAD, "drifts(0, -1)", x -> x.drifts(0, -1));
        refused(NONE, "drifts(5, 13): NONE is ahead of BAD", x -> x.drifts(5, 13));
        refused(NONE, "from(5, 0, 0)", x -> x.from(5, 0, 0));
        refused(NONE, "from(0, 0, 2)", x -> x.from(0, 0, 2));
        refused(BAD, "from(0, 13, 0)", x -> x.from(0, 13, 0));
        refused(NONE, "from(5, 13, 0): NONE (place) is ahead of BAD", x -> x.from(5, 13, 0));
        refused(NONE, "from(0, 13, 2): NONE (what) is ahead of BAD", x -> x.from(0, 13, 2));
        refused(NONE, "turns(2)", x -> x.turns(2));
        refused(LampVote.NO, "sways(3, 0)", x -> x.sways(3, 0));
        refused(LampVote.NO, "sways(0, 2)", x -> x.sways(0, 2));
        refused(BAD, "stick(2)", x -> x.stick(2));
        refused(BAD, "stick(-1)", x -> x.stick(-1));
        refused(NO_GAME, "set(3, 0)", x -> x.set(3, 0));
        refused(NO_GAME, "set(0, 2)", x -> x.set(0, 2));
        refused(NO_GAME, "game(3, 0, 0)", x -> x.game(3, 0, 0));
        refused(NO_GAME, "game(0, 3, 0)", x -> x.game(0, 3, 0));
        refused(NO_GAME, "game(0, 1, 2)", x -> x.game(0, 1, 2));
        refused(SAME, "game(1, 1, 0): two voters are one", x -> x.game(1, 1, 0));
        refused(SAME, "game(0, 0, 1): two voters are one", x -> x.game(0, 0, 1));
        refused(NO_GAME, "game(3, 3, 0): NONE (voter) is ahead of BAD", x -> x.game(3, 3, 0));
        refused(NO_GAME, "game(1, 1, 2): NONE (what) is ahead of BAD", x -> x.game(1, 1, 2));
        refused(NONE, "trace(7)", x -> x.trace(7));
        refused(NONE, "trace(-1)", x -> x.trace(-1));
        refused(NONE, "as(3, 0)", x -> x.as(3, 0));
        refused(NONE, "as(0, 7)", x -> x.as(0, 7));
        refused(-6, "as(0, 1): of another kind", x -> x.as(0, 1));
        refused(NONE, "as(3, 7)", x -> x.as(3, 7));
        refused(NONE, "count(6)", x -> x.count(6));
        refused(NONE, "fair(2)", x -> x.fair(2));
        refused(NONE, "fits(3)", x -> x.fits(3));
    }

    private static void busyTold() {
        refused(NONE, "see(5, 0)", x -> x.see(5, 0));
        refused(NONE, "see(-2, 0): only -1 is none then", x -> x.see(-2, 0));
        refused(BAD, "see(0, 7)", x -> x.see(0, 7));
        refused(BAD, "see(0, -1)", x -> x.see(0, -1));
        refused(NONE, "see(5, 7): NONE is ahead of BAD", x -> x.see(5, 7));
        refused(NONE, "see(-2, 7): NONE is ahead of BAD", x -> x.see(-2, 7));
        refused(NONE, "tale(3, 0, 0)", x -> x.tale(3, 0, 0));
        refused(NONE, "tale(-2, 0, 0): only -1 is none then", x -> x.tale(-2, 0, 0));
        refused(NONE, "tale(0, 0, 5)", x -> x.tale(0, 0, 5));
        refused(NONE, "tale(0, 0, -1)", x -> x.tale(0, 0, -1));
        refused(BAD, "tale(0, 13, 0)", x -> x.tale(0, 13, 0));
        refused(BAD, "tale(0, -1, 0)", x -> x.tale(0, -1, 0));
        refused(NONE, "tale(3, 13, 0): NONE (voter) is ahead of BAD", x -> x.tale(3, 13, 0));
        refused(NONE, "tale(0, 13, 5): NONE (place) is ahead of BAD", x -> x.tale(0, 13, 5));
    }

    private static void full() {
        in("all full", RefusalTests::filled);
        refused(FULL, "feed('1')", x -> x.feed('1'));
        refused(FULL, "feed(0)", x -> x.feed(0));
        refused(FULL, "feed(127)", x -> x.feed(127));
        refused(BAD, "feed(128): BAD is ahead of FULL", x -> x.feed(128));
        refused(BAD, "feed(-1): BAD is ahead of FULL", x -> x.feed(-1));
        refused(FULL, "tide(): FULL, the tape stays", LampVote::tide);
        refused(FULL, "voter(0, 0, 0, 0, 0)", x -> x.voter(0, 0, 0, 0, 0));
        refused(FULL, "voter(6, 9, 4, 1, 12)", x -> x.voter(6, 9, 4, 1, 12));
        refused(NONE, "voter(7, 0, 0, 0, 0): NONE is ahead of FULL", x -> x.voter(7, 0, 0, 0, 0));
        refused(NONE, "voter(0, 0, 5, 0, 0): NONE is ahead of FULL", x -> x.voter(0, 0, 5, 0, 0));
        refused(BAD, "voter(0, 10, 0, 0, 0): BAD is ahead of FULL", x -> x.voter(0, 10, 0, 0, 0));
        refused(BAD, "voter(0, 0, 0, 2, 0): BAD is ahead of FULL", x -> x.voter(0, 0, 0, 2, 0));
        refused(BAD, "voter(0, 0, 0, 0, 13): BAD is ahead of FULL", x -> x.voter(0, 0, 0, 0, 13));
        refused(NONE, "of(6, 0)", x -> x.of(6, 0));
        refused(FULL, "see(0, 0)", x -> x.see(0, 0));
        refused(FULL, "see(4, 6)", x -> x.see(4, 6));
        refused(BAD, "see(0, 7): BAD is ahead of FULL", x -> x.see(0, 7));
        refused(NONE, "see(5, 0): NONE is ahead of FULL", x -> x.see(5, 0));
        refused(FULL, "tale(0, 0, 0)", x -> x.tale(0, 0, 0));
        refused(FULL, "tale(5, 12, 4)", x -> x.tale(5, 12, 4));
        refused(BAD, "tale(0, 13, 0): BAD is ahead of FULL", x -> x.tale(0, 13, 0));
        refused(NONE, "tale(6, 0, 0): NONE is ahead of FULL", x -> x.tale(6, 0, 0));
        refused(NONE, "tale(0, 0, 5): NONE is ahead of FULL", x -> x.tale(0, 0, 5));
        refused(STATE, "places(5)", x -> x.places(5));
        in("a hundred signs", RefusalTests::longTape);
        refused(FULL, "feed('1')", x -> x.feed('1'));
        refused(FULL, "feed(';')", x -> x.feed(';'));
        refused(BAD, "feed(128): BAD is ahead of FULL", x -> x.feed(128));
        faultOnFullTides();
    }

    /** FULL is ahead of all: of a fault, and of an empty tape's too. */
    private static void faultOnFullTides() {
        in("five tides, a tape that is a fault", () -> {
            LampVote x = new LampVote();
            for (int i = 0; i < 5; i++) {
                tide(x, "weigh " + i + " p=1");
            }
            x.voter(6, 0, 0, 0, 0);
            type(x, "x");
            return x;
        });
        refused(FULL, "tide()", LampVote::tide);
        in("five tides, no tape", () -> {
            LampVote x = new LampVote();
            for (int i = 0; i < 5; i++) {
                tide(x, "weigh " + i + " p=1");
            }
            return x;
        });
        refused(FULL, "tide()", LampVote::tide);
    }

    private static void late() {
        in("minute 9999", () -> towardsTheEnd(9999));
        refused(STATE, "minutes(1)", x -> x.minutes(1));
        refused(STATE, "minutes(60)", x -> x.minutes(60));
        refused(BAD, "minutes(61): BAD is ahead of STATE", x -> x.minutes(61));
        refused(BAD, "minutes(-1)", x -> x.minutes(-1));
        refused(BAD, "minutes(HIGH): BAD is ahead of STATE", x -> x.minutes(HIGH));
        in("minute 9940", () -> towardsTheEnd(9940));
        refused(STATE, "minutes(60): 10000", x -> x.minutes(60));
        if (state.get().minutes(59) != 9999) {
            fault("minutes(59) is 9999");
        }
        in("minute 9939", () -> towardsTheEnd(9939));
        if (state.get().minutes(60) != 9999) {
            fault("minutes(60) is 9999");
        }
    }

    /** A refused act answers 0 and leaves no trace; all else stays. */
    private static void acts() {
        in("some of all, no act", () -> {
            LampVote x = some();
            x.act(3, 0, 0);
            return x;
        });
        refused(0, "act(3, 0, 1): no such voter", x -> x.act(3, 0, 1));
        refused(0, "act(-1, 0, 1): no such voter", x -> x.act(-1, 0, 1));
        refused(0, "act(0, 3, 1): no such act", x -> x.act(0, 3, 1));
        refused(0, "act(0, -1, 1): no such act", x -> x.act(0, -1, 1));
        refused(0, "act(LOW, HIGH, 1)", x -> x.act(LOW, HIGH, 1));
        LampVote x = some();
        if (x.count(5) != 7) {
            fault("there was a trace");
        }
        x.act(0, 3, 1);
        unchanged("act(0, 3, 1) behind a trace: no trace then", x);
    }

    /** All that is asked changes nothing, of those that are full either. */
    private static void asked() {
        in("some of all", RefusalTests::some);
        askAll();
        in("all full", RefusalTests::filled);
        askAll();
        in("a new object", LampVote::new);
        askAll();
    }

    private static void askAll() {
        leaves("at", x -> x.at(2, 4) + x.at(1, 3) + x.at(1, 5));
        leaves("of", x -> x.of(0, 5) + x.of(1, 7));
        leaves("minutes(0)", x -> x.minutes(0));
        leaves("vote", x -> x.vote(0) + x.vote(2));
        leaves("lies", x -> x.lies(0, 0) + x.lies(2, 1));
        leaves("ward", x -> x.ward(0) + x.ward(1));
        leaves("drifts", x -> x.drifts(0, 12));
        leaves("from", x -> x.from(4, 3, 0) + x.from(4, 3, 1));
        leaves("turns", x -> x.turns(0) + x.turns(1));
        leaves("sways", x -> x.sways(0, 0) + x.sways(1, 1));
        leaves("stick", x -> x.stick(0) + x.stick(1));
        leaves("set", x -> x.set(0, 0) + x.set(2, 1));
        leaves("game", x -> x.game(0, 1, 0) + x.game(2, 0, 1));
        leaves("fits", x -> x.fits(0) + x.fits(2));
        leaves("fair", x -> x.fair(0) + x.fair(1));
        leaves("looked", LampVote::looked);
        leaves("trace", x -> x.trace(0));
        leaves("as", x -> x.as(0, 0) + x.as(1, 4));
        leaves("count", x -> x.count(0) + x.count(5));
    }

    private static void leaves(String name, Call call) {
        LampVote x = state.get();
        call.on(x);
        unchanged(name + ", asked,", x);
    }
}
