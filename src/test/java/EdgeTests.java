/**
 * Each sentence of the document that names an edge - too many, too few, none there yet, empty, full,
 * alike, the least of several, a number that wraps round - has a test of its own here.
 */
public final class EdgeTests {
    private static int wrong = 0;
    private static int row = 0;
    private static String sentence = "";

    public static void main(String[] args) {
        newObject();
        canal();
        fullOnes();
        drifting();
        burning();
        setting();
        delays();
        nights();
        votes();
        wards();
        driftsAndFrom();
        turnsOfVotes();
        swaying();
        sticks();
        bestPlaces();
        games();
        seenOnes();
        fairWards();
        tales();
        acts();
        wraps();
        kinds();
        images();
        lastCall();
        System.out.println(wrong == 0 ? "EdgeTests: all answers are as due" : wrong + " answers are not as due");
        if (wrong != 0) {
            System.exit(1);
        }
    }

    private static void says(String text) {
        sentence = text;
        row = 0;
    }

    private static void due(long want, long got) {
        row++;
        if (got != want) {
            wrong++;
            System.out.println("\"" + sentence + "\", row " + row + ": answered " + got + ", due is " + want);
        }
    }

    private static void type(LampVote x, String text) {
        for (int i = 0; i < text.length(); i++) {
            x.feed(text.charAt(i));
        }
    }

    private static int tide(LampVote x, String text) {
        type(x, text);
        return x.tide();
    }

    private static LampVote under(String tide) {
        LampVote x = new LampVote();
        due(0, tide(x, tide));
        return x;
    }

    /** Water that goes round: p to p + 1, the last one to 0. */
    private static LampVote ring(int places) {
        LampVote x = new LampVote();
        x.places(places);
        x.place(places - 1, 0, 0);
        return x;
    }

    /** Each place keeps its water. */
    private static LampVote basins(int places) {
        LampVote x = new LampVote();
        x.places(places);
        for (int p = 0; p < places; p++) {
            x.place(p, 0, p);
        }
        return x;
    }

    private static LampVote at(LampVote x, int minute) {
        for (int m = 0; m < minute; m += 60) {
            x.minutes(Math.min(60, minute - m));
        }
        return x;
    }

    // ---- promise 1

    private static void newObject() {
        says("Five PLACES");
        LampVote x = new LampVote();
        due(0, x.at(4, 2));
        due(-1, x.at(5, 2));
        due(5, x.places(5));
        says("no VOTERS");
        due(0, x.count(0));
        due(-1, x.of(0, 0));
        due(0, x.image());
        says("no TIDE; without one there are no CLAUSES");
        x = new LampVote();
        due(0, x.count(1));
        for (int p = 0; p < 5; p++) {
            x.place(p, 1, 0);
        }
        for (int p = 0; p < 5; p++) {
            due(0, x.at(p, 3));
            due(p < 4 ? p + 1 : 4, x.at(p, 4));
            due(1, x.at(p, 5));
        }
        x.voter(0, 0, 0, 0, 3);
        due(3, x.of(0, 7));
        says("MINUTE: 0 at first");
        due(0, new LampVote().minutes(0));
        x = under("weigh 5 m=0");
        due(6, x.at(0, 5));
        says("nothing there yet: THE TAPE, SEEN, TALES, THE TRACE, THE IMAGE");
        x = new LampVote();
        due(0, x.count(4));
        due(0, x.count(2));
        due(0, x.count(3));
        due(0, x.count(5));
        due(-1, x.trace(0));
        due(-3, x.undo());
        says("of several objects each has its own");
        LampVote y = new LampVote();
        y.voter(0, 0, 0, 0, 0);
        y.places(3);
        y.feed('s');
        y.minutes(9);
        y.place(0, 0, 4);
        due(0, x.count(0));
        due(0, x.count(4));
        due(0, x.minutes(0));
        due(1, x.at(0, 0));
    }

    // ---- places

    private static void canal() {
        says("PLACES 0 .. n less 1 (n 2 .. 7)");
        for (int n = 2; n <= 7; n++) {
            LampVote x = new LampVote();
            x.places(n);
            due(0, x.at(n - 1, 2));
            due(-1, x.at(n, 2));
        }
        says("at first the one behind it, the last one itself; at first none; 0 at first");
        for (int n = 2; n <= 7; n++) {
            LampVote x = new LampVote();
            x.places(n);
            for (int p = 0; p < n; p++) {
                due(p < n - 1 ? p + 1 : p, x.at(p, 0));
                due(-1, x.at(p, 1));
                due(0, x.at(p, 2));
            }
        }
        says("There are n PLACES, all as at first: how many there were");
        LampVote x = new LampVote();
        due(5, x.places(7));
        for (int p = 0; p < 7; p++) {
            x.place(p, 0, 0);
            x.place(p, 1, 6);
            x.place(p, 2, 2);
        }
        due(7, x.places(7));
        for (int p = 0; p < 7; p++) {
            due(p < 6 ? p + 1 : 6, x.at(p, 0));
            due(-1, x.at(p, 1));
            due(0, x.at(p, 2));
        }
        x.place(1, 0, 6);
        due(7, x.places(2));
        due(1, x.at(1, 0));
        due(2, x.places(7));
        due(2, x.at(1, 0));
        placesAndOthers();
        place();
        lastMinute();
    }

    private static void placesAndOthers() {
        says("STATE: there are VOTERS; none, as before the first one, is well");
        LampVote x = new LampVote();
        x.image();
        x.voter(0, 0, 0, 0, 0);
        due(-3, x.places(5));
        x.undo();
        due(5, x.places(6));
        says("places() leaves MINUTE, THE TAPE and the TIDE that holds");
        x = under("weigh 5 p=1");
        x.minutes(7);
        x.feed('s');
        x.places(2);
        due(7, x.minutes(0));
        due(1, x.count(4));
        due(6, x.at(1, 5));
    }

    private static void place() {
        says("Of a PLACE SIDE (-1: none) becomes n: what it was");
        LampVote x = under("side p<9");
        due(1, x.at(0, 4));
        due(-1, x.place(0, 1, 4));
        due(4, x.at(0, 4));
        due(4, x.place(0, 1, -1));
        due(1, x.at(0, 4));
        due(-1, x.place(0, 1, 0));
        due(0, x.at(0, 4));
        due(0, x.at(0, 3));
        says("itself: it is a BASIN");
        x = new LampVote();
        due(3, x.place(2, 0, 2));
        due(2, x.at(2, 4));
        due(2, x.drifts(0, 12));
    }

    private static void lastMinute() {
        says("MINUTE: STATE, it would be above 9999");
        LampVote x = at(new LampVote(), 9998);
        due(-3, x.minutes(2));
        due(9998, x.minutes(0));
        due(9999, x.minutes(1));
        due(9999, x.minutes(0));
        due(-3, x.minutes(1));
        due(-3, x.minutes(60));
    }

    private static void fullOnes() {
        says("VOTERS are numbered from 0 on, 6 at most");
        LampVote x = new LampVote();
        for (int i = 0; i < 6; i++) {
            due(i, x.voter(0, 0, 0, 0, 0));
            due(i + 1, x.count(0));
        }
        due(-4, x.voter(0, 0, 0, 0, 0));
        due(6, x.count(0));
        says("behind undo() there is room for VOTERS again");
        x = new LampVote();
        x.image();
        for (int i = 0; i < 6; i++) {
            x.voter(0, 0, 0, 0, 0);
        }
        due(0, x.undo());
        due(0, x.voter(0, 0, 0, 0, 0));
        says("TIDES are numbered from 0 on, 5 at most; the newest one holds");
        x = new LampVote();
        for (int i = 0; i < 5; i++) {
            due(i, tide(x, "weigh " + (10 + i) + " p=0"));
            due(11 + i, x.at(0, 5));
            due(i + 1, x.count(1));
        }
        says("FULL (ahead of all; THE TAPE stays)");
        due(-4, x.tide());
        type(x, "weigh 1 p=0");
        due(-4, x.tide());
        due(11, x.count(4));
        due(5, x.count(1));
        due(15, x.at(0, 5));
        says("a FAULT is no TIDE: it takes no number");
        x = new LampVote();
        for (int i = 0; i < 7; i++) {
            due(-10, tide(x, "x"));
            due(0, x.count(1));
        }
        due(0, tide(x, "side p=1"));
        says("SEEN: 6 at most; place -1: none then");
        x = new LampVote();
        for (int i = 1; i <= 6; i++) {
            due(i, x.see(i % 5, i));
        }
        due(-4, x.see(0, 0));
        due(6, x.count(2));
        due(0, x.see(-1, 7));
        due(0, x.count(2));
        due(0, x.see(-1, 0));
        due(1, x.see(0, 0));
        says("TALES: 8 at most; voter -1: none then");
        x.voter(0, 0, 0, 0, 0);
        for (int i = 1; i <= 8; i++) {
            due(i, x.tale(0, i, i % 5));
        }
        due(-4, x.tale(0, 0, 0));
        due(8, x.count(3));
        due(0, x.tale(-1, 13, 5));
        due(0, x.count(3));
        due(0, x.tale(-1, 0, 0));
        due(1, x.tale(0, 0, 0));
    }

    // ---- lamps

    private static void drifting() {
        says("it stays, if any E of hold holds");
        LampVote x = under("hold p=9;hold p=1;hold p=8");
        due(1, x.at(1, 3));
        due(1, x.at(1, 4));
        due(0, x.at(0, 3));
        due(1, x.at(0, 4));
        says("hold is ahead of side, wherever it stands");
        x = under("side p=1;hold p=1");
        x.place(1, 1, 4);
        due(1, x.at(1, 4));
        says("to the SIDE one, if there is one and any E of side holds");
        x = under("side p=9;side p=1;side p=8");
        due(2, x.at(1, 4));
        x.place(1, 1, 4);
        due(4, x.at(1, 4));
        x.place(0, 1, 4);
        due(1, x.at(0, 4));
        says("SIDE may be 0, or the place itself");
        x.place(1, 1, 0);
        due(0, x.at(1, 4));
        x.place(1, 1, 1);
        due(1, x.at(1, 4));
        due(0, x.at(1, 3));
        says("else to the NEXT one");
        x = under("hold p=9;side p=9");
        x.place(1, 1, 4);
        due(2, x.at(1, 4));
        due(4, x.at(4, 4));
        says("whether a lamp stays there now: an E of hold, now");
        x = under("hold m=1&p=4");
        due(0, x.at(4, 3));
        x.minutes(1);
        due(1, x.at(4, 3));
        due(0, x.at(3, 3));
        x.minutes(12);
        due(1, x.at(4, 3));
        x.minutes(1);
        due(0, x.at(4, 3));
        says("a MINUTE going: m wraps within the NIGHT");
        x = ring(7);
        tide(x, "hold p=2&m=0");
        at(x, 10);
        int[] where = {0, 1, 2, 2, 3, 4, 5, 6, 0, 1, 2, 3, 4};
        for (int m = 0; m <= 12; m++) {
            due(where[m], x.drifts(0, m));
        }
    }

    private static void burning() {
        says("BURNS: OIL, and the n of all oil whose E holds (12 at most)");
        int[][] oils = {{0, 0, 0}, {0, 11, 11}, {0, 12, 12}, {0, 13, 12}, {1, 10, 11}, {1, 11, 12}, {1, 12, 12},
            {12, 0, 12}, {12, 1, 12}, {11, 0, 11}, {11, 1, 12}, {12, 99, 12}, {0, 99, 12}, {5, 3, 8}};
        for (int[] oil : oils) {
            LampVote x = under("oil " + oil[1] + " p=0");
            x.voter(0, 0, 0, 0, oil[0]);
            due(oil[2], x.of(0, 7));
        }
        LampVote x = under("oil 3 p=0;oil 4 m=0;oil 9 p=1");
        x.voter(0, 0, 0, 0, 2);
        due(9, x.of(0, 7));
        says("at the PLACE where it is set");
        x = under("oil 3 p=0;oil 5 p=1");
        x.voter(1, 0, 1, 0, 1);
        x.voter(0, 0, 1, 0, 1);
        due(4, x.of(0, 7));
        due(6, x.of(1, 7));
        says("at the MINUTE at which it is set: DELAY from MINUTE on, m wrapping");
        x = under("oil 1 m=11;oil 2 m=0;oil 4 m=1;oil 8 m=10");
        at(x, 11);
        for (int v = 0; v < 3; v++) {
            x.voter(0, v, 0, 0, 0);
            due(new int[] {1, 2, 4}[v], x.of(v, 7));
        }
        x.voter(2, 2, 0, 0, 0);
        due(1, x.of(3, 7));
        says("then it is dark, and stays where it is");
        x = ring(7);
        for (int oil = 0; oil < 6; oil++) {
            x.voter(2, 0, 0, 0, oil == 5 ? 12 : oil);
            due(oil, x.lies(oil, 0));
        }
        says("BURNS more than 12 would be no more MINUTES than the NIGHT has");
        x = ring(7);
        tide(x, "oil 1 p=0");
        x.voter(0, 0, 0, 0, 12);
        due(5, x.lies(0, 0));
    }

    private static void setting() {
        says("VOTER, EARLY: HOME");
        LampVote x = new LampVote();
        x.voter(0, 0, 3, 0, 0);
        x.voter(2, 0, 4, 0, 0);
        due(3, x.of(0, 5));
        due(4, x.of(1, 5));
        upperOnes();
        crowds();
        servedOnes();
        friends();
        toldOnes();
    }

    private static void upperOnes() {
        says("UPPER: the least PLACE whose NEXT one is HOME");
        LampVote x = basins(5);
        x.voter(1, 0, 2, 0, 0);
        x.place(4, 0, 2);
        due(4, x.of(0, 5));
        x.place(1, 0, 2);
        due(1, x.of(0, 5));
        x.place(0, 0, 2);
        due(0, x.of(0, 5));
        says("another one than HOME");
        x = basins(5);
        x.voter(1, 0, 0, 0, 0);
        x.place(3, 0, 0);
        due(3, x.of(0, 5));
        says("HOME, if there is none");
        x.place(3, 0, 3);
        due(0, x.of(0, 5));
        x = new LampVote();
        x.voter(1, 0, 0, 0, 0);
        due(0, x.of(0, 5));
        x = new LampVote();
        x.places(7);
        x.voter(1, 0, 0, 0, 0);
        due(0, x.of(0, 5));
        x.place(6, 0, 0);
        due(6, x.of(0, 5));
        says("the SIDE one is no NEXT one");
        x = new LampVote();
        x.voter(1, 0, 0, 0, 0);
        x.place(4, 1, 0);
        due(0, x.of(0, 5));
    }

    private static void crowds() {
        says("CROWD: the PLACE at which most VOTERS are at HOME (of several the least)");
        LampVote x = new LampVote();
        x.voter(3, 0, 4, 0, 0);
        due(4, x.of(0, 5));
        x.voter(6, 0, 3, 0, 0);
        due(3, x.of(0, 5));
        x.voter(6, 0, 4, 0, 0);
        due(4, x.of(0, 5));
        x.voter(0, 0, 0, 0, 0);
        x.voter(0, 0, 0, 0, 0);
        due(0, x.of(0, 5));
        x.voter(0, 0, 4, 0, 0);
        due(4, x.of(0, 5));
        for (int home = 0; home < 7; home++) {
            x = new LampVote();
            x.places(7);
            x.voter(3, 0, home, 0, 0);
            x.voter(6, 0, home == 6 ? 6 : home + 1, 0, 0);
            due(home, x.of(0, 5));
        }
    }

    private static void servedOnes() {
        says("SERVED: as UPPER, but HOME, if HOME is a BASIN");
        LampVote x = new LampVote();
        x.voter(4, 0, 4, 0, 0);
        x.voter(4, 0, 3, 0, 0);
        x.voter(4, 0, 0, 0, 0);
        due(4, x.of(0, 5));
        due(2, x.of(1, 5));
        due(0, x.of(2, 5));
        x.place(4, 0, 3);
        due(3, x.of(0, 5));
        x.place(2, 0, 2);
        due(4, x.of(1, 5));
    }

    private static void friends() {
        says("FRIEND: the HOME of the VOTER whose number is v modulo how many there are");
        for (int v = 0; v <= 9; v++) {
            LampVote x = new LampVote();
            x.places(7);
            for (int many = 1; many <= 6; many++) {
                x.voter(many == 1 ? 5 : 1, v, many, 0, 0);
                due(1 + v % many, x.of(0, 5));
            }
        }
        says("its HOME, not where that one SETS");
        LampVote x = new LampVote();
        x.voter(5, 1, 0, 0, 0);
        x.voter(1, 0, 3, 0, 0);
        due(3, x.of(0, 5));
        says("itself, if it is alone");
        x = new LampVote();
        x.voter(5, 9, 2, 0, 0);
        due(2, x.of(0, 5));
    }

    private static void toldOnes() {
        says("TOLD: its ROW (three PLACES; 0 at first)");
        LampVote x = new LampVote();
        x.voter(6, 0, 4, 0, 0);
        for (int m = 0; m < 3; m++) {
            due(0, x.of(0, 5));
            x.minutes(1);
        }
        due(0, x.row(0, 0, 1));
        due(0, x.row(0, 1, 2));
        due(0, x.row(0, 2, 3));
        says("at MINUTE modulo 3");
        int[] minutes = {0, 1, 2, 3, 4, 5, 59, 60, 9997, 9998, 9999};
        for (int minute : minutes) {
            LampVote y = at(new LampVote(), minute);
            y.voter(6, 0, 0, 0, 0);
            for (int k = 0; k < 3; k++) {
                y.row(0, k, k + 1);
            }
            due(1 + minute % 3, y.of(0, 5));
        }
        says("MINUTE as it is now, not as it is when it sets");
        x = basins(5);
        x.voter(6, 2, 4, 0, 0);
        x.row(0, 0, 1);
        x.row(0, 2, 3);
        due(2, x.of(0, 6));
        due(1, x.lies(0, 0));
        says("a new TOLD one has no ROW of one that was undone");
        x = new LampVote();
        x.image();
        x.voter(6, 0, 0, 0, 0);
        x.row(0, 0, 4);
        x.undo();
        x.voter(6, 0, 0, 0, 0);
        due(0, x.of(0, 5));
        due(0, x.row(0, 0, 4));
    }

    private static void delays() {
        says("DELAY of a VOTER: v modulo 3 MINUTES; EARLY, FRIEND: none");
        for (int kind = 0; kind <= 6; kind++) {
            for (int v = 0; v <= 9; v++) {
                LampVote x = new LampVote();
                x.voter(kind, v, 0, 0, 0);
                due(kind == 2 || kind == 5 ? 0 : v % 3, x.of(0, 6));
            }
        }
    }

    private static void nights() {
        says("A NIGHT is of MINUTES 0 .. 11, none behind the NIGHT; set DELAY MINUTES from MINUTE on");
        LampVote x = ring(7);
        x.voter(0, 0, 0, 0, 12);
        x.voter(0, 1, 0, 0, 12);
        x.voter(0, 2, 0, 0, 12);
        x.voter(0, 2, 0, 0, 11);
        x.voter(0, 2, 0, 0, 10);
        x.voter(0, 2, 0, 0, 9);
        int[] ends = {5, 4, 3, 3, 3, 2};
        for (int i = 0; i < 6; i++) {
            due(ends[i], x.lies(i, 0));
        }
        says("goes at each MINUTE from that on, BURNS of these");
        x = ring(7);
        int[][] oils = {{0, 0, 0}, {0, 1, 1}, {0, 11, 4}, {1, 0, 0}, {1, 1, 1}, {1, 11, 4}};
        for (int i = 0; i < 6; i++) {
            x.voter(0, oils[i][0], 0, 0, oils[i][1]);
            due(oils[i][2], x.lies(i, 0));
        }
        says("the first and the last MINUTE of the NIGHT");
        x = ring(7);
        tide(x, "hold m=0");
        x.voter(0, 0, 0, 0, 12);
        x.voter(0, 0, 0, 0, 1);
        x.voter(0, 1, 0, 0, 1);
        due(4, x.lies(0, 0));
        due(0, x.lies(1, 0));
        due(1, x.lies(2, 0));
        tide(x, "hold m=11");
        due(4, x.lies(0, 0));
        due(1, x.lies(1, 0));
        says("DELAY and BURNS, together, are 12 or more");
        int[][] counts = {{0, 0, 12, 1}, {0, 0, 11, 0}, {0, 1, 11, 1}, {0, 1, 10, 0}, {0, 2, 10, 1}, {0, 2, 9, 0},
            {0, 3, 11, 0}, {0, 5, 10, 1}, {0, 9, 12, 1}, {2, 2, 12, 1}, {2, 2, 11, 0}, {2, 1, 11, 0}, {5, 2, 12, 1},
            {5, 2, 11, 0}, {1, 1, 11, 1}, {1, 1, 10, 0}, {3, 2, 10, 1}, {3, 2, 9, 0}, {4, 8, 10, 1}, {4, 8, 9, 0}};
        for (int[] c : counts) {
            x = new LampVote();
            x.voter(c[0], c[1], 2, 1, c[2]);
            due(c[3], x.lies(0, 1));
            due(c[3], x.vote(1));
        }
        says("or it is a TOLD one's");
        for (int oil = 0; oil <= 12; oil++) {
            x = new LampVote();
            x.voter(6, 0, 2, 1, oil);
            due(1, x.lies(0, 1));
            due(1, x.vote(1));
        }
        behindTheNight();
    }

    private static void behindTheNight() {
        says("WEIGHT of that PLACE at the MINUTE behind the NIGHT (12 from MINUTE on)");
        int[][] weights = {{0, 6}, {1, 51}, {10, 1}, {11, 21}, {12, 6}, {13, 51}, {23, 21}, {9996, 6}, {9999, 1}};
        for (int[] w : weights) {
            LampVote x = at(under("weigh 5 m=0;weigh 20 m=11;weigh 50 m=1"), w[0]);
            x.voter(0, 0, 4, 1, 12);
            due(w[1], x.vote(1));
        }
        says("of that PLACE where it lies");
        LampVote x = under("weigh 5 p=0;weigh 7 p=4;weigh 9 p=2");
        x.voter(0, 0, 0, 1, 12);
        x.voter(6, 0, 0, 0, 2);
        due(8, x.vote(1));
        due(10, x.vote(0));
    }

    // ---- what is asked of nights

    /** Lamps that count, each on a basin: at place i, with these wishes. */
    private static LampVote lying(String tide, int... wishes) {
        LampVote x = basins(7);
        if (!tide.isEmpty()) {
            due(0, tide(x, tide));
        }
        for (int i = 0; i < wishes.length; i++) {
            x.voter(2, 0, i, wishes[i], 12);
        }
        return x;
    }

    private static void votes() {
        says("VOTE: no VOTERS have nothing, and no MAYOR");
        LampVote x = new LampVote();
        due(0, x.vote(0));
        due(0, x.vote(1));
        due(-5, x.vote(2));
        says("the MAYOR: the greater one, be it by one");
        x = lying("", 0, 1, 0);
        due(2, x.vote(0));
        due(1, x.vote(1));
        due(0, x.vote(2));
        due(1, lying("", 1, 0, 1).vote(2));
        due(0, lying("weigh 1 p=0", 0, 1).vote(2));
        due(1, lying("weigh 1 p=1", 0, 1).vote(2));
        says("-5: they are alike");
        due(-5, lying("", 0, 1).vote(2));
        due(-5, lying("weigh 1 p=0", 0, 1, 1).vote(2));
        says("who does not count is no vote: alike at nothing");
        x = new LampVote();
        x.voter(0, 0, 0, 0, 11);
        due(0, x.vote(0));
        due(-5, x.vote(2));
        says("all six, on the heaviest PLACE");
        x = under("weigh 99 p=4;".repeat(7).substring(0, 90));
        for (int i = 0; i < 6; i++) {
            x.voter(6, 0, 0, 1, 12);
        }
        due(6 * (1 + 99 * 7), x.vote(1));
        due(1, x.vote(2));
    }

    private static void wards() {
        says("WARDS: -5: alike, or nothing");
        LampVote x = lying("", 0, 1);
        due(-5, x.ward(0));
        due(-5, x.ward(1));
        due(-5, x.ward(2));
        says("who has more, be it by one, of what COUNTS at PLACES of it");
        x = lying("weigh 1 p=1", 0, 1);
        due(1, x.ward(0));
        x.place(1, 2, 2);
        due(0, x.ward(0));
        due(1, x.ward(2));
        due(-5, x.ward(1));
        says("a dark one that does not count is nothing in its WARD");
        x = new LampVote();
        x.voter(0, 0, 0, 1, 0);
        due(-5, x.ward(0));
        says("no VOTERS: nothing");
        due(-5, new LampVote().ward(0));
    }

    private static void driftsAndFrom() {
        says("DRIFTS by m (0 .. 12)");
        LampVote x = ring(7);
        for (int p = 0; p < 7; p++) {
            due(p, x.drifts(p, 0));
            due((p + 1) % 7, x.drifts(p, 1));
            due((p + 12) % 7, x.drifts(p, 12));
        }
        says("however long it burns");
        x.voter(0, 0, 0, 0, 0);
        due(5, x.drifts(0, 12));
        says("FROM by 0: the PLACE itself; by 12");
        for (int p = 0; p < 7; p++) {
            due(1 << p, x.from(p, 0, 0));
            due(p, x.from(p, 0, 1));
            due(1 << (p + 2) % 7, x.from(p, 12, 0));
            due((p + 2) % 7, x.from(p, 12, 1));
        }
        says("-5: none; no bits");
        x = new LampVote();
        due(0, x.from(0, 1, 0));
        due(-5, x.from(0, 1, 1));
        due(-5, x.from(3, 12, 1));
        says("all PLACES, and the least of them");
        due(31, x.from(4, 12, 0));
        due(0, x.from(4, 12, 1));
        due(31, x.from(4, 4, 0));
        due(30, x.from(4, 3, 0));
        due(1, x.from(4, 3, 1));
        x.places(7);
        due(127, x.from(6, 12, 0));
        due(127, x.from(6, 6, 0));
        due(126, x.from(6, 5, 0));
        x.places(2);
        due(3, x.from(1, 1, 0));
    }

    private static void turnsOfVotes() {
        says("TURNS -5: none do");
        due(-5, new LampVote().turns(0));
        due(-5, new LampVote().turns(1));
        LampVote x = new LampVote();
        x.voter(0, 0, 0, 0, 11);
        due(-5, x.turns(0));
        due(-5, x.turns(1));
        says("make the MAYOR the other one: alike is not enough");
        due(2, lying("", 0, 0).turns(0));
        due(3, lying("", 0, 0).turns(1));
        due(2, lying("", 1, 1).turns(0));
        says("if there is none: make any");
        due(1, lying("", 0, 1).turns(0));
        due(1, lying("", 0, 1).turns(1));
        due(1, lying("weigh 1 p=0", 0, 1, 1).turns(0));
        due(1, lying("weigh 1 p=0", 0, 1, 1).turns(1));
        says("the fewest, ahead of the least bits");
        x = lying("weigh 5 p=2", 0, 0, 0);
        due(1, x.turns(0));
        due(4, x.turns(1));
        says("the least set of so many, as bits");
        due(1, lying("", 0, 0, 0, 1, 1).turns(1));
        due(2, lying("", 1, 0, 0).turns(1));
        due(6, lying("", 1, 0, 0, 0).turns(1));
        due(2, lying("", 1, 0, 0, 0).turns(0));
        says("all six");
        x = lying("", 0, 0, 0, 0, 0, 0);
        due(4, x.turns(0));
        due(15, x.turns(1));
        says("the last of six alone");
        x = lying("weigh 9 p=5", 0, 0, 0, 0, 0, 0);
        due(1, x.turns(0));
        due(32, x.turns(1));
    }

    private static void sways(long above, long below, LampVote x, int voter) {
        due(above, x.sways(voter, 0));
        due(below, x.sways(voter, 1));
    }

    private static void swaying() {
        says("SWAYS: NO, no such VOTER, part");
        due(LampVote.NO, new LampVote().sways(0, 0));
        due(LampVote.NO, lying("", 0).sways(1, 0));
        due(LampVote.NO, lying("", 0).sways(0, 2));
        says("a fraction in lowest terms: always, never");
        sways(1, 1, lying("", 0), 0);
        sways(1, 1, lying("weigh 9 p=5", 0, 0, 0, 0, 0, 0), 5);
        sways(0, 1, lying("weigh 9 p=5", 0, 0, 0, 0, 0, 0), 0);
        says("(or none, or there is one then)");
        sways(1, 1, lying("", 0, 1), 0);
        sways(1, 1, lying("", 1, 1), 1);
        says("in lowest terms");
        sways(1, 2, lying("", 0, 0, 0), 1);
        sways(3, 4, lying("", 0, 0, 0, 0), 3);
        sways(3, 8, lying("", 0, 0, 0, 0, 0), 0);
        sways(5, 8, lying("", 0, 0, 0, 0, 0, 0), 0);
        says("who does not count never does");
        LampVote x = new LampVote();
        x.voter(0, 0, 0, 0, 0);
        sways(0, 1, x, 0);
        says("as they can wish, not as they do");
        sways(1, 2, lying("", 1, 1, 1), 0);
        sways(1, 2, lying("", 0, 1, 1), 0);
    }

    private static void sticks() {
        says("STICK -5: none; no VOTERS");
        due(-5, new LampVote().stick(0));
        due(-5, new LampVote().stick(1));
        says("BAD: wish");
        due(-2, new LampVote().stick(2));
        due(-2, new LampVote().stick(-1));
        says("the least PLACE: 0, where all do as well");
        due(0, lying("", 1).stick(1));
        due(-5, lying("", 1).stick(0));
        says("the least of some");
        LampVote x = new LampVote();
        due(0, tide(x, "weigh 1 p=1|p=2"));
        x.voter(2, 0, 0, 0, 12);
        x.voter(2, 0, 4, 1, 12);
        due(1, x.stick(0));
        due(-5, x.stick(1));
        says("-5, though it is so without a stick: wherever there is one, both come to it and are alike");
        LampVote both = ring(2);
        tide(both, "weigh 1 p=1");
        both.voter(2, 0, 1, 1, 12);
        both.voter(2, 0, 0, 0, 12);
        due(1, both.vote(2));
        due(-5, both.stick(1));
        due(-5, both.stick(0));
        says("each lamp that is there: one that comes there, one that is set there");
        x = new LampVote();
        due(0, tide(x, "weigh 2 p=2"));
        x.voter(2, 0, 0, 0, 12);
        x.voter(2, 0, 3, 1, 12);
        due(2, x.stick(0));
        due(-5, x.stick(1));
        x.voter(2, 0, 2, 1, 12);
        x.voter(2, 0, 3, 0, 12);
        due(-5, x.stick(0));
        says("the last PLACE alone");
        x = ring(7);
        tide(x, "weigh 1 p=6");
        x.voter(2, 0, 5, 0, 12);
        x.voter(6, 0, 0, 1, 0);
        due(6, x.stick(0));
        says("through the NIGHT alone: nothing is otherwise behind it");
        due(3, x.lies(0, 0));
        due(3, x.drifts(5, 12));
        due(-5, x.vote(2));
    }

    private static void bestPlaces() {
        says("SET: the least PLACE, of several as good");
        LampVote x = lying("", 0);
        due(0, x.set(0, 0));
        due(1, x.set(0, 1));
        x = lying("weigh 3 p=2|p=5", 0);
        due(2, x.set(0, 0));
        due(4, x.set(0, 1));
        says("the last PLACE");
        x = lying("weigh 3 p=6", 0);
        due(6, x.set(0, 0));
        says("(may be below 0)");
        x = lying("weigh 9 p=1&m=0", 0, 1, 1);
        x.place(0, 0, 0);
        due(1, x.set(0, 0));
        due(-1, x.set(0, 1));
        x = lying("weigh 99 p=1;weigh 99 p=1", 0, 1, 1, 1);
        x.place(1, 0, 2);
        due(0, x.set(0, 0));
        due(-2, x.set(0, 1));
        says("0, when alike");
        due(0, lying("", 0, 1).set(0, 1));
        due(0, lying("", 0, 1).set(1, 1));
        says("-1001: NONE");
        due(-1001, new LampVote().set(0, 0));
        due(-1001, lying("", 0).set(1, 0));
        due(-1001, lying("", 0).set(0, 2));
        says("its lamp counts where there is oil for it");
        x = under("oil 1 p=3");
        x.voter(2, 0, 0, 0, 11);
        due(3, x.set(0, 0));
        due(1, x.set(0, 1));
        says("it counts nowhere: the least PLACE, no more");
        x = new LampVote();
        x.voter(2, 0, 3, 0, 0);
        due(0, x.set(0, 0));
        due(0, x.set(0, 1));
    }

    private static void games() {
        says("GAME -1001: NONE; -1002: two VOTERS are one");
        LampVote x = lying("", 0, 1);
        due(-1001, x.game(2, 0, 0));
        due(-1001, x.game(0, 2, 0));
        due(-1001, x.game(0, 1, 2));
        due(-1002, x.game(1, 1, 0));
        says("of several PLACES the least");
        due(0, x.game(0, 1, 0));
        due(0, x.game(0, 1, 1));
        says("each wants its own WISH to have most: both at the heaviest");
        x = lying("weigh 5 p=3|p=4", 0, 1);
        due(3, x.game(0, 1, 0));
        due(0, x.game(0, 1, 1));
        says("two of one WISH");
        x = lying("weigh 5 p=3|p=4", 1, 1);
        due(3, x.game(0, 1, 0));
        due(12, x.game(0, 1, 1));
        says("the second one, knowing that: the first one's best alone is not always");
        x = lying("weigh 5 p=3|p=4", 1, 0, 1);
        due(3, x.game(1, 2, 0));
        due(-1, x.game(1, 2, 1));
        says("the last PLACE");
        due(6, lying("weigh 7 p=6", 0, 1).game(1, 0, 0));
    }

    // ---- seen and told

    private static void seenOnes() {
        says("FITS: nothing SEEN, so all PLACES");
        for (int n = 2; n <= 7; n++) {
            LampVote x = basins(n);
            x.voter(0, 0, 0, 0, 0);
            due((1 << n) - 1, x.fits(0));
        }
        says("a PLACE and how many lamps lay there (dark ones, too)");
        LampVote x = basins(5);
        for (int i = 0; i < 6; i++) {
            x.voter(0, 0, 4, 0, 0);
        }
        x.see(4, 6);
        due(16, x.fits(0));
        x.see(-1, 0);
        x.see(4, 5);
        due(15, x.fits(0));
        x.see(-1, 0);
        x.see(3, 0);
        due(23, x.fits(5));
        x.see(-1, 0);
        x.see(0, 1);
        due(1, x.fits(5));
        says("all of SEEN is so: none, when two are at odds");
        x.see(0, 0);
        due(0, x.fits(5));
        says("all of SEEN: the first and the last of six");
        x.see(-1, 0);
        for (int i = 0; i < 5; i++) {
            x.see(4, 5);
        }
        due(15, x.fits(0));
        x.see(1, 1);
        due(2, x.fits(0));
        x.see(-1, 0);
        x.see(2, 1);
        for (int i = 0; i < 5; i++) {
            x.see(4, 5);
        }
        due(4, x.fits(0));
        says("behind the NIGHT");
        x = new LampVote();
        x.voter(0, 1, 0, 0, 12);
        x.see(4, 1);
        due(31, x.fits(0));
        x.see(3, 0);
        due(31, x.fits(0));
        says("a PLACE that places() has taken away has no lamps");
        x = new LampVote();
        x.see(4, 0);
        x.places(3);
        x.voter(0, 0, 0, 0, 0);
        due(7, x.fits(0));
        due(1, x.count(2));
    }

    private static void fairWards() {
        says("FAIR: no VOTERS, so the least way, and 0");
        LampVote x = new LampVote();
        due(0, x.fair(0));
        due(0, x.fair(1));
        says("PLACE 0 being of WARD 0");
        x = basins(7);
        x.voter(0, 0, 0, 0, 0);
        x.voter(0, 0, 0, 0, 0);
        due(0, x.fair(0));
        due(2, x.fair(1));
        says("of several the least as bits of PLACES of WARD 1");
        x.voter(0, 0, 1, 0, 0);
        x.voter(0, 0, 6, 0, 0);
        due(66, x.fair(0));
        due(0, x.fair(1));
        x.voter(0, 0, 3, 0, 0);
        due(10, x.fair(0));
        due(1, x.fair(1));
        says("all of WARD 1 but PLACE 0; the last PLACE alone");
        x = basins(7);
        x.voter(0, 0, 0, 0, 0);
        x.voter(0, 0, 6, 0, 0);
        due(64, x.fair(0));
        due(0, x.fair(1));
        x = basins(7);
        for (int p = 1; p < 7; p++) {
            x.voter(0, 0, p, 0, 0);
        }
        due(14, x.fair(0));
        due(0, x.fair(1));
        says("five at 0 and one at 6: least is not nothing");
        x = basins(7);
        for (int i = 0; i < 5; i++) {
            x.voter(0, 0, 0, 0, 0);
        }
        x.voter(0, 0, 6, 0, 0);
        due(64, x.fair(0));
        due(4, x.fair(1));
        says("the numbers of lamps, not what they count for");
        x = basins(7);
        tide(x, "weigh 9 p=1");
        x.voter(2, 0, 1, 0, 12);
        x.voter(2, 0, 2, 0, 12);
        due(2, x.fair(0));
        due(0, x.fair(1));
        x.voter(2, 0, 0, 1, 0);
        x.voter(2, 0, 0, 1, 0);
        due(6, x.fair(0));
        due(0, x.fair(1));
        says("WARDS of E staying as they are");
        x = under("hold w=1");
        x.place(2, 2, 1);
        x.voter(0, 0, 0, 0, 12);
        x.voter(0, 0, 3, 0, 12);
        due(4, x.fair(0));
        due(0, x.fair(1));
        due(1, x.at(2, 2));
        due(0, x.at(1, 2));
    }

    private static void tales() {
        says("LOOKED at -5: none");
        LampVote x = ring(7);
        due(-5, x.looked());
        x.voter(0, 2, 3, 0, 3);
        x.voter(2, 2, 0, 0, 12);
        due(-5, x.looked());
        says("before it is set: where it SETS; m (0 .. 12)");
        int[] where = {3, 3, 3, 4, 5, 6, 6, 6, 6, 6, 6, 6, 6};
        for (int m = 0; m <= 12; m++) {
            for (int p = 0; p < 7; p++) {
                x.tale(-1, 0, 0);
                x.tale(0, m, p);
                due(p == where[m] ? -5 : 0, x.looked());
            }
        }
        says("12 MINUTES from now: where it LIES");
        x = ring(7);
        x.voter(2, 2, 0, 0, 12);
        x.tale(0, 12, 5);
        due(-5, x.looked());
        x.tale(0, 11, 4);
        due(-5, x.looked());
        x.tale(0, 1, 1);
        due(-5, x.looked());
        x.tale(0, 0, 0);
        due(-5, x.looked());
        says("the first that is otherwise, of 8");
        for (int first = 0; first <= 8; first++) {
            x.tale(-1, 0, 0);
            for (int t = 0; t < 8; t++) {
                x.tale(0, 1, t < first ? 1 : 2);
            }
            due(first < 8 ? first : -5, x.looked());
        }
        says("a TALE of each VOTER, the last one too");
        x = basins(7);
        for (int i = 0; i < 6; i++) {
            x.voter(0, 0, i, 0, 0);
        }
        for (int i = 0; i < 6; i++) {
            due(i + 1, x.tale(i, i, i));
        }
        due(-5, x.looked());
        x.tale(5, 0, 6);
        due(6, x.looked());
        says("DELAY goes ahead, BURNS are counted from then on");
        x = ring(7);
        x.voter(0, 1, 0, 0, 1);
        x.tale(0, 1, 0);
        x.tale(0, 2, 1);
        x.tale(0, 3, 1);
        due(-5, x.looked());
    }

    // ---- acts

    private static LampVote one(int kind, int v, int number) {
        LampVote x = new LampVote();
        for (int i = 0; i < number; i++) {
            x.voter(0, 0, 0, 0, 0);
        }
        x.voter(kind, v, 0, 0, 0);
        return x;
    }

    private static void traced(LampVote x, int... bodies) {
        due(bodies.length, x.count(5));
        for (int i = 0; i < bodies.length; i++) {
            due(bodies[i], x.trace(i));
        }
        due(-1, x.trace(bodies.length));
        due(-1, x.trace(19));
        due(-1, x.trace(20));
    }

    private static void acts() {
        says("0, and no TRACE then: no such VOTER, act");
        LampVote x = one(4, 0, 0);
        int[][] none = {{1, 0}, {-1, 0}, {0, 3}, {0, -1}, {6, 2}};
        for (int[] n : none) {
            x.act(0, 2, 5);
            due(7, x.count(5));
            due(0, x.act(n[0], n[1], 5));
            traced(x);
        }
        due(0, new LampVote().act(0, 0, 7));
        says("THE TRACE: bodies that ran in the latest act()");
        x.act(0, 2, 5);
        traced(x, 41, 3, 2, 11, 1, 11, 1);
        x.act(0, 0, 5);
        traced(x, 11, 1);
        x = one(0, 1, 5);
        x.act(5, 0, 1);
        traced(x, 1);
        says("the body of its KIND, or, if that has none, of the next KIND above that has one");
        int[][][] bodies = {
            {{1}, {2, 1}, {3, 2, 1}},
            {{11, 1}, {2, 11, 1}, {3, 2, 11, 1}},
            {{1}, {21, 2, 1}, {3, 21, 2, 1}},
            {{1}, {2, 1}, {31, 3, 2, 1}},
            {{11, 1}, {2, 11, 1}, {41, 3, 2, 11, 1, 11, 1}},
            {{51, 1}, {21, 2, 51, 1}, {3, 21, 2, 51, 1}},
            {{1}, {61, 2, 1}, {31, 3, 61, 2, 1}}
        };
        int[][] answers = {{13, 8, 16}, {33, 28, 56}, {13, -8, -16}, {13, 8, 16 ^ 7}, {33, 28, 50 + 9}, {13 ^ 3, -9, -18},
            {13, 13, 26 ^ 7}};
        for (int kind = 0; kind <= 6; kind++) {
            for (int act = 0; act < 3; act++) {
                x = one(kind, 5, 3);
                due(answers[kind][act], x.act(3, act, 10));
                traced(x, bodies[kind][act]);
            }
        }
    }

    private static void wraps() {
        int high = Integer.MAX_VALUE;
        int low = Integer.MIN_VALUE;
        says("ints, wrapping: x + i");
        due(low, one(0, 0, 1).act(1, 0, high));
        due(low + 4, one(0, 0, 5).act(5, 0, high));
        due(high, one(0, 0, 0).act(0, 0, high));
        due(low, one(0, 0, 0).act(0, 0, low));
        says("sets(x) - v");
        due(high, one(0, 1, 0).act(0, 1, low));
        due(high - 8, one(0, 9, 0).act(0, 1, low));
        says("burns(x) * 2");
        due(low, one(0, 0, 0).act(0, 2, 1 << 30));
        due(0, one(0, 0, 0).act(0, 2, low));
        due(-2, one(0, 0, 0).act(0, 2, high));
        says("x * 3");
        due(high - 2, one(1, 0, 0).act(0, 0, high));
        due(low, one(1, 0, 0).act(0, 0, low));
        due(low + 1, one(1, 0, 0).act(0, 0, 715827883));
        due(2, one(1, 0, 0).act(0, 0, 1431655766));
        says("-super.burns(x)");
        due(low, one(2, 0, 0).act(0, 1, low));
        due(low + 1, one(2, 0, 0).act(0, 1, high));
        due(low + 1, one(2, 1, 0).act(0, 1, low));
        says("super.tells(x) ^ 7");
        due(low ^ 7, one(3, 0, 0).act(0, 2, 1 << 30));
        due(-2 ^ 7, one(3, 0, 0).act(0, 2, high));
        says("super.tells(x - 1) + sets(2)");
        due(0, one(4, 0, 0).act(0, 2, low));
        due(low + 4, one(4, 0, 0).act(0, 2, 357913942));
        says("super.sets(x) ^ i");
        due(low ^ 1, one(5, 0, 1).act(1, 0, high));
        says("super.burns(x) + v");
        due(low, one(6, 9, 0).act(0, 1, low));
        due(low + 1, one(6, 9, 2).act(2, 1, high));
    }

    private static void kinds() {
        says("A VOTER taken for a KIND, or one under that; -6: it is of another KIND");
        String[] taken = {"0", "01", "02", "03", "014", "025", "036"};
        for (int kind = 0; kind <= 6; kind++) {
            LampVote x = one(kind, 8, 0);
            for (int k = 0; k <= 6; k++) {
                due(taken[kind].indexOf('0' + k) >= 0 ? 8 : -6, x.as(0, k));
            }
            due(-1, x.as(0, 7));
            due(-1, x.as(1, 0));
        }
        says("its v, be it 0");
        due(0, one(0, 0, 0).as(0, 0));
    }

    // ---- the image

    private static void images() {
        says("STATE: there is none");
        LampVote x = new LampVote();
        due(-3, x.undo());
        x.voter(0, 0, 0, 0, 0);
        due(-3, x.undo());
        due(1, x.count(0));
        says("THE IMAGE of nothing yet is one");
        x = new LampVote();
        due(0, x.image());
        x.voter(0, 0, 0, 0, 0);
        due(0, x.undo());
        due(0, x.count(0));
        says("All is as THE IMAGE, again and again");
        x.voter(0, 0, 3, 0, 0);
        due(0, x.undo());
        due(0, x.undo());
        says("the newest one is THE IMAGE");
        x = new LampVote();
        x.image();
        x.voter(0, 0, 0, 0, 0);
        due(1, x.image());
        x.voter(0, 0, 0, 0, 0);
        due(1, x.undo());
        imageAndOthers();
        broughtBack();
        voterMadeAnew();
    }

    private static void imageAndOthers() {
        says("(but THE IMAGE and THE TRACE)");
        LampVote x = one(4, 0, 0);
        x.image();
        x.act(0, 2, 1);
        x.undo();
        traced(x, 41, 3, 2, 11, 1, 11, 1);
        says("PLACES as they were, be they more or fewer");
        x = new LampVote();
        x.places(7);
        x.place(6, 0, 1);
        x.place(6, 1, 2);
        x.place(6, 2, 1);
        x.image();
        x.places(2);
        due(0, x.undo());
        due(1, x.at(6, 0));
        due(2, x.at(6, 1));
        due(1, x.at(6, 2));
        x.places(2);
        x.image();
        x.places(7);
        x.undo();
        due(-1, x.at(2, 0));
        due(1, x.at(1, 0));
        says("the TIDE that held, none too; TIDES are as many as then");
        x = new LampVote();
        x.image();
        tide(x, "weigh 5 p=0");
        x.undo();
        due(1, x.at(0, 5));
        due(0, x.count(1));
        due(0, tide(x, "weigh 6 p=0"));
        x.image();
        for (int i = 1; i < 5; i++) {
            due(i, tide(x, "weigh 7 p=0"));
        }
        due(-4, x.tide());
        x.undo();
        due(7, x.at(0, 5));
        due(1, tide(x, "weigh 8 p=0"));
        says("THE TAPE, SEEN, TALES, MINUTE as they were, full or empty");
        x = new LampVote();
        x.voter(0, 0, 0, 0, 0);
        x.image();
        for (int i = 0; i < 100; i++) {
            x.feed('s');
        }
        for (int i = 0; i < 8; i++) {
            x.see(0, 0);
            x.tale(0, 0, 0);
        }
        x.minutes(60);
        x.undo();
        due(0, x.count(4));
        due(0, x.count(2));
        due(0, x.count(3));
        due(0, x.minutes(0));
        due(1, x.feed('s'));
        due(1, x.see(0, 0));
        due(1, x.tale(0, 0, 0));
    }

    /** What stands in the first and in the last row of all that there is. */
    private static void broughtBack() {
        says("all that there is: the first PLACE, VOTER, sign, SEEN, TALE and the last");
        LampVote x = basins(7);
        for (int p = 0; p < 7; p += 6) {
            x.place(p, 0, 1);
            x.place(p, 1, 2);
            x.place(p, 2, 1);
        }
        x.place(1, 0, 2);
        for (int i = 0; i < 5; i++) {
            x.voter(6, i + 1, i, 1, 0);
            x.row(i, 0, 6 - i);
            x.see(6 - i, i < 4 ? 1 : 2);
            x.tale(i, i, 6 - i);
        }
        x.voter(6, 6, 5, 1, 12);
        x.row(5, 0, 1);
        x.see(1, 0);
        x.tale(0, 12, 6);
        x.tale(5, 12, 2);
        x.tale(5, 0, 1);
        due(-5, x.looked());
        due(64, x.fits(0));
        due(71, x.fits(5));
        type(x, "weigh 5 p=0");
        long[] before = told(x);
        x.image();
        due(0, x.tide());
        type(x, "9".repeat(100));
        for (int p = 0; p < 7; p++) {
            x.place(p, 0, 3);
            x.place(p, 1, 4);
            x.place(p, 2, 2);
        }
        for (int i = 0; i < 6; i++) {
            x.wish(i, 0);
            x.row(i, 0, 3);
            x.row(i, 1, 3);
        }
        x.see(-1, 0);
        x.tale(-1, 0, 0);
        for (int i = 0; i < 8; i++) {
            x.see(3, 3);
            x.tale(5, 5, 5);
        }
        due(6, x.undo());
        long[] after = told(x);
        for (int i = 0; i < before.length; i++) {
            due(before[i], after[i]);
        }
        due(0, x.tide());
        due(6, x.at(0, 5));
        due(1, x.at(1, 5));
    }

    private static long[] told(LampVote x) {
        long[] told = new long[7 * 3 + 6 * 7 + 6];
        int i = 0;
        for (int p = 0; p < 7; p++) {
            for (int what = 0; what < 3; what++) {
                told[i++] = x.at(p, what);
            }
        }
        for (int v = 0; v < 6; v++) {
            for (int what = 0; what < 6; what++) {
                told[i++] = x.of(v, what);
            }
            told[i++] = x.fits(v);
        }
        told[i++] = x.looked();
        for (int what = 0; what < 5; what++) {
            told[i++] = x.count(what);
        }
        return told;
    }

    private static void voterMadeAnew() {
        says("a VOTER made anew is as told, though others have had its number");
        LampVote y = new LampVote();
        y.image();
        for (int i = 0; i < 6; i++) {
            y.voter(6, 9, 4, 1, 12);
            y.row(i, 1, 2);
        }
        y.undo();
        due(0, y.voter(6, 1, 2, 0, 3));
        int[] made = {6, 1, 2, 0, 3, 0, 1, 3};
        for (int what = 0; what < 8; what++) {
            due(made[what], y.of(0, what));
        }
        due(0, y.row(0, 1, 0));
    }

    private static void lastCall() {
        says("at most 512 calls: the last ones answer as the first ones");
        LampVote x = new LampVote();
        x.voter(5, 7, 3, 1, 12);
        x.tale(0, 0, 4);
        for (int call = 2; call < 510; call += 2) {
            due(1, x.vote(1));
            due(0, x.looked());
        }
        due(4, x.lies(0, 0));
        due(1, x.count(3));
    }
}
