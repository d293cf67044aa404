/** Each promise of the document, with answers worked out by hand: common calls, edges, wrong inputs. */
public final class PromiseTests {
    private static int wrong = 0;
    private static int promise = 0;
    private static int row = 0;

    public static void main(String[] args) {
        newObject();
        feed();
        tide();
        tideEffects();
        places();
        place();
        at();
        voter();
        of();
        wish();
        row();
        minutes();
        vote();
        lies();
        ward();
        drifts();
        from();
        turns();
        sways();
        stick();
        set();
        game();
        see();
        fits();
        fair();
        tale();
        looked();
        act();
        trace();
        as();
        image();
        undo();
        count();
        System.out.println(wrong == 0 ? "PromiseTests: all answers are as due" : wrong + " answers are not as due");
        if (wrong != 0) {
            System.exit(1);
        }
    }

    private static void promise(int number) {
        promise = number;
        row = 0;
    }

    private static void due(long want, long got) {
        row++;
        if (got != want) {
            wrong++;
            System.out.println("promise " + promise + ", row " + row + ": answered " + got + ", due is " + want);
        }
    }

    private static void type(LampVote x, String text) {
        for (int i = 0; i < text.length(); i++) {
            x.feed(text.charAt(i));
        }
    }

    private static int tide(LampVote x, String text) {
        type(x, text);
        return x.tide();
    }

    private static LampVote under(String tide) {
        LampVote x = new LampVote();
        tide(x, tide);
        return x;
    }

    /** A tape with this text is a fault at that place. */
    private static void fault(int place, String text) {
        LampVote x = new LampVote();
        due(-10 - place, tide(x, text));
        due(0, x.count(1));
        due(0, x.count(4));
    }

    private static void sound(String text) {
        due(0, tide(new LampVote(), text));
    }

    private static void newObject() {
        promise(1);
        LampVote x = new LampVote();
        int[] next = {1, 2, 3, 4, 4};
        for (int p = 0; p < 5; p++) {
            due(next[p], x.at(p, 0));
            due(-1, x.at(p, 1));
            due(0, x.at(p, 2));
            due(0, x.at(p, 3));
            due(next[p], x.at(p, 4));
            due(1, x.at(p, 5));
        }
        due(-1, x.at(5, 0));
        for (int what = 0; what < 6; what++) {
            due(0, x.count(what));
        }
        due(0, x.minutes(0));
        due(-3, x.undo());
        due(-1, LampVote.NONE);
        due(-2, LampVote.BAD);
        due(-3, LampVote.STATE);
        due(-4, LampVote.FULL);
        due(Long.MIN_VALUE, LampVote.NO);
    }

    private static void feed() {
        promise(2);
        LampVote x = new LampVote();
        due(-2, x.feed(-1));
        due(-2, x.feed(128));
        due(-2, x.feed(Integer.MIN_VALUE));
        due(-2, x.feed(Integer.MAX_VALUE));
        due(0, x.count(4));
        due(1, x.feed(0));
        due(2, x.feed(127));
        for (int i = 3; i <= 100; i++) {
            due(i, x.feed('p'));
        }
        due(-4, x.feed('p'));
        due(-2, x.feed(128));
        due(100, x.count(4));
        due(-10, x.tide());
        due(1, x.feed('p'));
    }

    private static void tide() {
        promise(3);
        sound("side p=1");
        sound("hold q<99");
        sound("oil 0 m>0");
        sound("weigh 99 w=10");
        sound("side p=1|q=2&m<3|!w>0");
        sound("hold !(p=1|!(q=2&(m=3)))");
        sound("hold !!!!!p=1&!!!!!p=2|!!!!!p=3");
        sound("hold (((((p=1)))))&(((((p=1)))))");
        sound("side p=1;side p=1;side p=1;side p=1;side p=1;side p=1;side p=1;side p=1;side p=1;side p=1");
        // no text, and texts that end too early
        fault(0, "");
        fault(3, "sid");
        fault(4, "side");
        fault(5, "side ");
        fault(6, "side p");
        fault(7, "side p=");
        fault(9, "side p=1;");
        fault(9, "side p=1&");
        fault(9, "side p=1|");
        fault(9, "side (p=1");
        fault(6, "side !");
        fault(4, "oil ");
        fault(5, "oil 3");
        fault(6, "oil 3 ");
        fault(7, "weigh 3");
        // words
        fault(0, "x");
        fault(0, " side p=1");
        fault(0, "Side p=1");
        fault(0, ";side p=1");
        fault(1, "sold p=1");
        fault(2, "sine p=1");
        fault(1, "hide p=1");
        fault(2, "oik 3 p=1");
        fault(3, "oils 3 p=1");
        fault(4, "weig 3 p=1");
        fault(4, "sidep=1");
        fault(5, "side  p=1");
        fault(5, "side 1 p=1");
        fault(9, "side p=1;;side p=1");
        fault(9, "side p=1; side p=1");
        // numbers
        fault(4, "oil p=1");
        fault(5, "oil 05 p=1");
        fault(6, "oil 123 p=1");
        fault(5, "oil 5p=1");
        fault(6, "oil 5  p=1");
        fault(4, "oil -1 p=1");
        fault(8, "side p=01");
        fault(8, "side p=00");
        fault(9, "side p=123");
        fault(7, "side p=x");
        fault(7, "side p=-1");
        fault(7, "side p==1");
        // tests and what joins them
        fault(5, "side r=1");
        fault(5, "side 1=p");
        fault(6, "side pq=1");
        fault(6, "side p!1");
        fault(8, "side p=1 ");
        fault(8, "side p=1p=2");
        fault(9, "side p=1&&p=2");
        fault(9, "side p=1|;");
        fault(8, "side p=1!");
        fault(8, "side p=1)");
        fault(6, "side ()");
        fault(10, "side (p=1))");
        fault(10, "side (p=1)(p=2)");
        fault(9, "side (p=1;side p=1");
        fault(8, "side p=1(");
        // at most five of ! and ( are open
        fault(10, "hold !!!!!!p=1");
        fault(10, "hold ((((((p=1))))))");
        fault(10, "hold !(!(!(p=1)))");
        fault(15, "hold ((((!p=1&!(p=2)))))");
        fault(18, "hold ((((p=1&(p=2&(p=3))))))");
        sound("hold ((((!p=1&!p=2|(p=3)&!p=4))))");
        // at most ten clauses
        String ten = "side p=1;side p=1;side p=1;side p=1;side p=1;side p=1;side p=1;side p=1;side p=1;side p=1";
        fault(89, ten + ";side p=1");
        fault(89, ten + ";");
        // at most five tides; the tape stays then
        LampVote x = new LampVote();
        for (int i = 0; i < 5; i++) {
            due(i, tide(x, "weigh " + (i + 1) + " p=0"));
            due(0, x.count(4));
            due(i + 2, x.at(0, 5));
        }
        due(1, x.feed('s'));
        due(-4, x.tide());
        due(1, x.count(4));
        due(5, x.count(1));
        due(6, x.at(0, 5));
        // by a fault the tide that held holds
        x = under("weigh 7 p=0");
        due(-12, tide(x, "we"));
        due(8, x.at(0, 5));
        due(1, tide(x, "weigh 2 p=1"));
        due(1, x.at(0, 5));
        due(3, x.at(1, 5));
        // nothing of a fault is left over
        due(-36, tide(x, "weigh 9 p<9;hold (!(p=1&!("));
        due(-31, tide(x, "weigh 9 p<9;hold (!((x"));
        due(2, tide(x, "weigh 4 !(!(p=2));oil 5 p=0"));
        due(1, x.at(1, 5));
        due(5, x.at(2, 5));
        due(0, x.at(1, 3));
    }

    /** The weight of each place tells whether E holds there. */
    private static void holds(String e, int... weights) {
        LampVote x = new LampVote();
        x.place(2, 2, 1);
        x.place(3, 2, 2);
        x.place(4, 0, 0);
        x.minutes(15);
        due(0, tide(x, "weigh 10 " + e));
        for (int p = 0; p < 5; p++) {
            due(weights[p], x.at(p, 5));
        }
    }

    private static void tideEffects() {
        promise(3);
        row = 1000;
        holds("p=2", 1, 1, 11, 1, 1);
        holds("p<2", 11, 11, 1, 1, 1);
        holds("p>2", 1, 1, 1, 11, 11);
        holds("q=0", 1, 1, 1, 1, 11);
        holds("q>2", 1, 1, 11, 11, 1);
        holds("w=0", 11, 11, 1, 1, 11);
        holds("w>0", 1, 1, 11, 11, 1);
        holds("m=3", 11, 11, 11, 11, 11);
        holds("m=15", 1, 1, 1, 1, 1);
        holds("m<99", 11, 11, 11, 11, 11);
        holds("p<12", 11, 11, 11, 11, 11);
        holds("!p=2", 11, 11, 1, 11, 11);
        holds("!!p=2", 1, 1, 11, 1, 1);
        // & binds tighter than |, ! tighter than both
        holds("p=0|p=1&p=2", 11, 1, 1, 1, 1);
        holds("p=1&p=2|p=0", 11, 1, 1, 1, 1);
        holds("(p=0|p=1)&p=1", 1, 11, 1, 1, 1);
        holds("p=1&(p=0|p=1)", 1, 11, 1, 1, 1);
        holds("!p=0&p<3", 1, 11, 11, 1, 1);
        holds("!(p=0|p=1)", 1, 1, 11, 11, 11);
        holds("!(p=0&p=1)|p=4", 11, 11, 11, 11, 11);
        holds("p=0|p=1|p=4", 11, 11, 1, 1, 11);
        holds("p>0&p<4&!p=2", 1, 11, 1, 11, 1);
        holds("!(!(p=1)&!p=3)", 1, 11, 1, 11, 1);
        // as deep as E goes, with a | and an & that wait at each level
        holds("p=9|p<9&(p=9|p<9&(p=9|p<9&(p=9|p<9&(p=9|p<9&(p=9|p<9&p=2)))))", 1, 1, 11, 1, 1);
        // long texts with faults leave room for a sound one
        LampVote y = new LampVote();
        String tests = "p=1&p=1&p=1&p=1&p=1&p=1&p=1&p=1&p=1&p=1&p=1&p=1&p=1&p=1&p=1&p=1&p=1&p=1&p=1&p=1&";
        due(-95, tide(y, "hold " + tests));
        due(-95, tide(y, "hold " + tests + "&"));
        due(-95, tide(y, "hold " + tests + "x"));
        due(0, tide(y, "weigh 3 " + tests + "p=1"));
        due(4, y.at(1, 5));
        due(1, y.at(2, 5));
        // all weigh whose E holds, together
        LampVote x = under("weigh 3 p<2;weigh 5 p=0;weigh 0 p=0;side p=0;oil 9 p=0");
        due(9, x.at(0, 5));
        due(4, x.at(1, 5));
        due(1, x.at(2, 5));
    }

    private static void places() {
        promise(4);
        LampVote x = new LampVote();
        due(-2, x.places(1));
        due(-2, x.places(8));
        due(-2, x.places(-1));
        due(5, x.places(7));
        due(7, x.places(2));
        due(1, x.at(0, 0));
        due(1, x.at(1, 0));
        due(-1, x.at(2, 0));
        x.place(0, 0, 0);
        x.place(0, 1, 1);
        x.place(0, 2, 2);
        due(2, x.places(3));
        due(1, x.at(0, 0));
        due(-1, x.at(0, 1));
        due(0, x.at(0, 2));
        due(2, x.at(1, 0));
        due(2, x.at(2, 0));
        x.voter(0, 0, 0, 0, 0);
        due(-3, x.places(3));
        due(-2, x.places(8));
        due(2, x.at(2, 0));
        due(-1, x.at(3, 0));
    }

    private static void place() {
        promise(5);
        LampVote x = new LampVote();
        due(1, x.place(0, 0, 4));
        due(4, x.place(0, 0, 0));
        due(-1, x.place(0, 1, 3));
        due(3, x.place(0, 1, 0));
        due(0, x.place(0, 1, -1));
        due(-1, x.place(0, 1, -1));
        due(0, x.place(0, 2, 2));
        due(2, x.place(0, 2, 0));
        due(0, x.place(0, 2, 1));
        due(-1, x.place(-1, 0, 0));
        due(-1, x.place(5, 0, 0));
        due(-1, x.place(0, -1, 0));
        due(-1, x.place(0, 3, 0));
        due(-1, x.place(5, 0, 9));
        due(-1, x.place(0, 3, 9));
        due(-2, x.place(0, 0, -1));
        due(-2, x.place(0, 0, 5));
        due(-2, x.place(0, 1, -2));
        due(-2, x.place(0, 1, 5));
        due(-2, x.place(0, 2, -1));
        due(-2, x.place(0, 2, 3));
        due(0, x.at(0, 0));
        due(-1, x.at(0, 1));
        due(1, x.at(0, 2));
        due(-1, x.place(Integer.MIN_VALUE, 0, 0));
        due(-2, x.place(0, 0, Integer.MAX_VALUE));
        // voters do not keep places from becoming others
        x.voter(0, 0, 0, 0, 0);
        due(0, x.place(0, 0, 2));
    }

    private static void at() {
        promise(6);
        LampVote x = under("hold p=1&m>0;side p<3;weigh 4 m=2");
        x.place(0, 1, 3);
        x.place(1, 1, 4);
        x.place(3, 1, 0);
        due(0, x.at(0, 3));
        due(3, x.at(0, 4));
        due(0, x.at(1, 3));
        due(4, x.at(1, 4));
        due(3, x.at(2, 4));
        due(4, x.at(3, 4));
        due(1, x.at(1, 5));
        x.minutes(2);
        due(0, x.at(0, 3));
        due(3, x.at(0, 4));
        due(1, x.at(1, 3));
        due(1, x.at(1, 4));
        due(5, x.at(1, 5));
        due(2, x.at(1, 0));
        due(4, x.at(1, 1));
        due(0, x.at(1, 2));
        due(-1, x.at(-1, 0));
        due(-1, x.at(5, 0));
        due(-1, x.at(0, -1));
        due(-1, x.at(0, 6));
    }

    private static void voter() {
        promise(7);
        LampVote x = new LampVote();
        due(-1, x.voter(-1, 0, 0, 0, 0));
        due(-1, x.voter(7, 0, 0, 0, 0));
        due(-1, x.voter(0, 0, -1, 0, 0));
        due(-1, x.voter(0, 0, 5, 0, 0));
        due(-1, x.voter(0, 10, 5, 2, 13));
        due(-2, x.voter(0, -1, 0, 0, 0));
        due(-2, x.voter(0, 10, 0, 0, 0));
        due(-2, x.voter(0, 0, 0, -1, 0));
        due(-2, x.voter(0, 0, 0, 2, 0));
        due(-2, x.voter(0, 0, 0, 0, -1));
        due(-2, x.voter(0, 0, 0, 0, 13));
        due(0, x.count(0));
        for (int i = 0; i < 6; i++) {
            due(i, x.voter(i, i, i % 5, i % 2, i));
        }
        due(-4, x.voter(6, 9, 4, 1, 12));
        due(-1, x.voter(7, 9, 4, 1, 12));
        due(-2, x.voter(6, 9, 4, 1, 13));
        due(6, x.count(0));
        LampVote y = new LampVote();
        due(0, y.voter(6, 9, 4, 1, 12));
    }

    private static void of() {
        promise(8);
        LampVote x = new LampVote();
        x.voter(6, 9, 4, 1, 12);
        int[] told = {6, 9, 4, 1, 12, 0, 0, 12};
        for (int what = 0; what < 8; what++) {
            due(told[what], x.of(0, what));
        }
        due(-1, x.of(0, -1));
        due(-1, x.of(0, 8));
        due(-1, x.of(1, 0));
        due(-1, x.of(-1, 0));
        // 2 flows into 3, so do 0 and 4; 1 into itself
        x = new LampVote();
        x.place(0, 0, 3);
        x.place(1, 0, 1);
        x.place(4, 0, 3);
        x.voter(0, 2, 3, 0, 0);
        x.voter(1, 3, 3, 0, 0);
        x.voter(2, 4, 3, 0, 0);
        x.voter(3, 5, 1, 0, 0);
        x.voter(4, 7, 1, 0, 0);
        x.voter(5, 8, 1, 0, 0);
        int[] sets = {3, 0, 3, 1, 1, 3};
        int[] delays = {2, 0, 0, 2, 1, 0};
        for (int i = 0; i < 6; i++) {
            due(sets[i], x.of(i, 5));
            due(delays[i], x.of(i, 6));
        }
        // upper: never home itself; home, if nothing flows there
        x = new LampVote();
        x.place(0, 0, 0);
        x.voter(1, 0, 0, 0, 0);
        x.voter(1, 0, 1, 0, 0);
        x.voter(1, 0, 4, 0, 0);
        x.voter(4, 0, 4, 0, 0);
        x.voter(4, 0, 3, 0, 0);
        due(0, x.of(0, 5));
        due(1, x.of(1, 5));
        due(3, x.of(2, 5));
        due(4, x.of(3, 5));
        due(2, x.of(4, 5));
        // a place that flows into home though it has a basin as home behind it
        x.place(2, 0, 0);
        due(2, x.of(0, 5));
        // crowd: of several the least; all voters live somewhere
        x = new LampVote();
        x.voter(3, 0, 4, 0, 0);
        due(4, x.of(0, 5));
        x.voter(0, 0, 2, 0, 0);
        due(2, x.of(0, 5));
        x.voter(6, 0, 4, 0, 0);
        due(4, x.of(0, 5));
        x.voter(6, 0, 0, 0, 0);
        x.voter(6, 0, 0, 0, 0);
        due(0, x.of(0, 5));
        // friend: v modulo how many there are, asked now
        x = new LampVote();
        x.voter(5, 7, 0, 0, 0);
        due(0, x.of(0, 5));
        x.voter(0, 0, 3, 0, 0);
        due(3, x.of(0, 5));
        x.voter(0, 0, 4, 0, 0);
        due(3, x.of(0, 5));
        x.voter(0, 0, 2, 0, 0);
        due(2, x.of(0, 5));
        // told: by the minute as it is now, not as it is when it sets
        x = new LampVote();
        x.voter(6, 2, 0, 0, 3);
        x.row(0, 0, 1);
        x.row(0, 1, 2);
        x.row(0, 2, 3);
        due(1, x.of(0, 5));
        x.minutes(1);
        due(2, x.of(0, 5));
        x.minutes(1);
        due(3, x.of(0, 5));
        x.minutes(4);
        due(1, x.of(0, 5));
        // burns: where and when the lamp is set; twelve at most
        x = under("oil 2 p=1&m=2;oil 1 m=2;oil 4 p=2");
        x.voter(0, 2, 1, 0, 3);
        x.voter(0, 1, 1, 0, 3);
        x.voter(2, 2, 1, 0, 3);
        x.voter(1, 2, 3, 0, 9);
        due(6, x.of(0, 7));
        due(3, x.of(1, 7));
        due(3, x.of(2, 7));
        due(12, x.of(3, 7));
        x.minutes(1);
        due(3, x.of(0, 7));
        due(6, x.of(1, 7));
        due(3, x.of(2, 7));
        x.minutes(1);
        due(6, x.of(2, 7));
    }

    private static void wish() {
        promise(9);
        LampVote x = new LampVote();
        due(-1, x.wish(0, 0));
        x.voter(0, 0, 0, 1, 12);
        due(1, x.wish(0, 0));
        due(0, x.of(0, 3));
        due(0, x.wish(0, 1));
        due(1, x.wish(0, 1));
        due(-2, x.wish(0, 2));
        due(-2, x.wish(0, -1));
        due(-1, x.wish(1, 2));
        due(-1, x.wish(-1, 0));
        due(1, x.of(0, 3));
    }

    private static void row() {
        promise(10);
        LampVote x = new LampVote();
        x.voter(3, 0, 0, 0, 0);
        x.voter(6, 0, 4, 0, 0);
        due(0, x.row(1, 0, 1));
        due(0, x.row(1, 1, 4));
        due(0, x.row(1, 2, 3));
        due(1, x.row(1, 0, 2));
        due(4, x.row(1, 1, 0));
        due(3, x.row(1, 2, 0));
        due(-3, x.row(0, 0, 0));
        due(-1, x.row(0, 3, 0));
        due(-1, x.row(0, 0, 5));
        due(-1, x.row(2, 0, 0));
        due(-1, x.row(-1, 0, 0));
        due(-1, x.row(1, -1, 0));
        due(-1, x.row(1, 3, 0));
        due(-1, x.row(1, 0, -1));
        due(-1, x.row(1, 0, 5));
        due(2, x.of(1, 5));
    }

    private static void minutes() {
        promise(11);
        LampVote x = new LampVote();
        due(0, x.minutes(0));
        due(60, x.minutes(60));
        due(61, x.minutes(1));
        due(-2, x.minutes(-1));
        due(-2, x.minutes(61));
        due(61, x.minutes(0));
        x = new LampVote();
        for (int i = 1; i <= 166; i++) {
            due(60L * i, x.minutes(60));
        }
        due(-3, x.minutes(40));
        due(-2, x.minutes(61));
        due(9999, x.minutes(39));
        due(-3, x.minutes(1));
        due(9999, x.minutes(0));
        // the night of the last minute goes past it
        tide(x, "weigh 5 m=3;weigh 7 m=4");
        x.voter(0, 0, 4, 1, 12);
        due(6, x.at(0, 5));
        due(6, x.vote(1));
    }

    /** 0 counts for wish 0 (12 of oil), 1 for 1 (delay and oil are 12), 2 for 1 (told), 3 not (11). */
    private static LampVote fourVoters() {
        LampVote x = new LampVote();
        x.voter(0, 0, 0, 0, 12);
        x.voter(0, 1, 0, 1, 11);
        x.voter(6, 0, 0, 1, 2);
        x.voter(0, 2, 0, 0, 9);
        return x;
    }

    private static void vote() {
        promise(12);
        LampVote x = new LampVote();
        due(0, x.vote(0));
        due(0, x.vote(1));
        due(-5, x.vote(2));
        due(-1, x.vote(3));
        due(-1, x.vote(-1));
        x = fourVoters();
        due(1, x.vote(0));
        due(2, x.vote(1));
        due(1, x.vote(2));
        x.wish(1, 0);
        due(2, x.vote(0));
        due(1, x.vote(1));
        due(0, x.vote(2));
        // weights: of where it lies, at the minute behind the night
        x = fourVoters();
        tide(x, "weigh 5 p=2;weigh 9 p=4&m=0;weigh 50 p=4&m=11;weigh 70 p=0");
        due(10, x.vote(0));
        due(16, x.vote(1));
        x.minutes(1);
        due(1, x.vote(0));
        due(7, x.vote(1));
        tide(x, "weigh 9 p=4&m=1");
        due(10, x.vote(0));
        // alike
        x = new LampVote();
        x.voter(2, 0, 0, 0, 12);
        x.voter(2, 0, 0, 1, 12);
        due(-5, x.vote(2));
        // the early one is not delayed, so that 11 of oil are not enough
        x = new LampVote();
        x.voter(2, 1, 0, 0, 11);
        due(0, x.vote(0));
    }

    private static void lies() {
        promise(13);
        LampVote x = fourVoters();
        int[] where = {4, 4, 2, 4};
        int[] counts = {1, 1, 1, 0};
        for (int i = 0; i < 4; i++) {
            due(where[i], x.lies(i, 0));
            due(counts[i], x.lies(i, 1));
        }
        due(-1, x.lies(4, 0));
        due(-1, x.lies(-1, 0));
        due(-1, x.lies(0, 2));
        due(-1, x.lies(0, -1));
        // round and round: 0 to 1 to 0; a delay of two leaves ten minutes of the night
        x = new LampVote();
        x.places(2);
        x.place(1, 0, 0);
        x.voter(0, 0, 0, 0, 12);
        x.voter(0, 1, 0, 0, 12);
        x.voter(0, 2, 0, 0, 12);
        x.voter(0, 2, 0, 0, 9);
        x.voter(0, 0, 0, 0, 0);
        x.voter(0, 0, 1, 0, 0);
        due(0, x.lies(0, 0));
        due(1, x.lies(1, 0));
        due(0, x.lies(2, 0));
        due(1, x.lies(3, 0));
        due(0, x.lies(4, 0));
        due(1, x.lies(5, 0));
        due(1, x.lies(2, 1));
        due(0, x.lies(3, 1));
        due(0, x.lies(4, 1));
        // hold is ahead of side, side ahead of next, each minute anew
        x = under("hold p=1&m<5;side m=5|m=6");
        x.place(1, 1, 3);
        x.place(2, 0, 4);
        x.place(3, 0, 3);
        x.voter(0, 0, 0, 0, 12);
        x.voter(0, 0, 0, 0, 5);
        x.voter(0, 0, 0, 0, 6);
        x.voter(0, 0, 0, 0, 1);
        due(3, x.lies(0, 0));
        due(1, x.lies(1, 0));
        due(3, x.lies(2, 0));
        due(1, x.lies(3, 0));
        x.minutes(3);
        due(1, x.lies(3, 0));
        due(3, x.lies(0, 0));
        // from minute 7 on nothing holds it, nor leads it aside
        x.minutes(4);
        due(4, x.lies(0, 0));
    }

    private static void ward() {
        promise(14);
        LampVote x = fourVoters();
        due(1, x.ward(0));
        due(-5, x.ward(1));
        due(-5, x.ward(2));
        x.place(2, 2, 1);
        due(-5, x.ward(0));
        due(1, x.ward(1));
        x.place(4, 2, 2);
        due(-5, x.ward(0));
        due(-5, x.ward(2));
        x.wish(1, 0);
        due(0, x.ward(2));
        due(-1, x.ward(3));
        due(-1, x.ward(-1));
        // what counts has its weight
        x.wish(1, 1);
        x.voter(6, 0, 0, 0, 3);
        x.voter(6, 0, 0, 0, 3);
        x.place(3, 2, 1);
        due(0, x.ward(1));
        tide(x, "weigh 2 p=2");
        due(1, x.ward(1));
        tide(x, "weigh 1 p=2");
        due(-5, x.ward(1));
    }

    private static void drifts() {
        promise(15);
        LampVote x = new LampVote();
        due(0, x.drifts(0, 0));
        due(3, x.drifts(0, 3));
        due(4, x.drifts(0, 12));
        due(4, x.drifts(2, 2));
        due(-1, x.drifts(5, 0));
        due(-1, x.drifts(-1, 13));
        due(-2, x.drifts(0, 13));
        due(-2, x.drifts(0, -1));
        tide(x, "hold p=2&m<4");
        due(2, x.drifts(0, 4));
        due(3, x.drifts(0, 5));
        x.minutes(3);
        due(3, x.drifts(0, 3));
        x.minutes(9);
        due(2, x.drifts(0, 4));
    }

    private static void from() {
        promise(16);
        LampVote x = new LampVote();
        due(1, x.from(0, 0, 0));
        due(0, x.from(0, 0, 1));
        due(28, x.from(4, 2, 0));
        due(2, x.from(4, 2, 1));
        due(31, x.from(4, 12, 0));
        due(0, x.from(0, 1, 0));
        due(-5, x.from(0, 1, 1));
        due(1, x.from(1, 1, 0));
        due(-1, x.from(5, 0, 0));
        due(-1, x.from(-1, 0, 0));
        due(-1, x.from(0, 0, 2));
        due(-1, x.from(0, 0, -1));
        due(-1, x.from(0, 13, 2));
        due(-2, x.from(0, 13, 0));
        due(-2, x.from(0, -1, 1));
        tide(x, "side m=1");
        x.place(1, 1, 0);
        due(1, x.from(0, 2, 0));
        due(0, x.from(1, 2, 0));
        x.minutes(1);
        due(2, x.from(0, 1, 0));
        due(1, x.from(1, 1, 0));
        due(2, x.from(1, 2, 0));
    }

    /** All lie at place 4 and count, with the wishes told. */
    private static LampVote wishing(int... wishes) {
        LampVote x = new LampVote();
        for (int wish : wishes) {
            x.voter(2, 0, 4, wish, 12);
        }
        return x;
    }

    private static void turns() {
        promise(17);
        due(-5, new LampVote().turns(0));
        due(-5, new LampVote().turns(1));
        due(-1, new LampVote().turns(2));
        due(-1, new LampVote().turns(-1));
        due(1, wishing(0).turns(0));
        due(1, wishing(0).turns(1));
        due(2, wishing(1, 0, 0, 0).turns(0));
        due(6, wishing(1, 0, 0, 0).turns(1));
        due(1, wishing(1, 1, 0).turns(0));
        due(1, wishing(1, 1, 0).turns(1));
        due(1, wishing(0, 1, 0).turns(1));
        due(3, wishing(0, 0, 0, 0, 0).turns(0));
        due(7, wishing(0, 0, 0, 0, 0).turns(1));
        // nobody is mayor: any will do
        due(1, wishing(0, 1).turns(0));
        due(1, wishing(0, 1).turns(1));
        due(1, wishing(1, 1, 0, 0).turns(1));
        // alike is not yet the other one
        due(2, wishing(0, 0).turns(0));
        due(3, wishing(0, 0).turns(1));
        // lamps that do not count turn nothing
        LampVote x = new LampVote();
        x.voter(2, 0, 0, 0, 11);
        due(-5, x.turns(0));
        due(-5, x.turns(1));
        x.voter(2, 0, 4, 1, 12);
        due(1, x.turns(0));
        due(2, x.turns(1));
        // the heavier one alone turns what two lighter ones would
        x = new LampVote();
        tide(x, "weigh 3 p=0");
        x.place(0, 0, 0);
        x.voter(2, 0, 4, 0, 12);
        x.voter(2, 0, 4, 0, 12);
        x.voter(2, 0, 0, 0, 12);
        due(1, x.turns(0));
        due(4, x.turns(1));
    }

    private static void sways() {
        promise(18);
        LampVote x = wishing(0);
        due(1, x.sways(0, 0));
        due(1, x.sways(0, 1));
        due(LampVote.NO, x.sways(1, 0));
        due(LampVote.NO, x.sways(-1, 0));
        due(LampVote.NO, x.sways(0, 2));
        due(LampVote.NO, x.sways(0, -1));
        // of two each way of the other one is turned: to alike, or from it
        x = wishing(0, 0);
        due(1, x.sways(0, 0));
        due(1, x.sways(0, 1));
        // of three: when the other two differ
        x = wishing(0, 1, 1);
        due(1, x.sways(2, 0));
        due(2, x.sways(2, 1));
        // of five: 6 of 16 ways in which the other four are two and two
        x = wishing(0, 1, 1, 0, 1);
        due(3, x.sways(4, 0));
        due(8, x.sways(4, 1));
        // of six: 20 of 32 ways leave the other five at three and two
        x = wishing(0, 1, 1, 0, 1, 0);
        due(5, x.sways(0, 0));
        due(8, x.sways(0, 1));
        // who does not count never sways
        x = wishing(0, 1);
        x.voter(2, 0, 0, 0, 11);
        due(0, x.sways(2, 0));
        due(1, x.sways(2, 1));
        // one that has more than all others
        tide(x, "weigh 3 p=0");
        x.place(0, 0, 0);
        x.voter(2, 0, 0, 1, 12);
        due(1, x.sways(3, 0));
        due(1, x.sways(3, 1));
        due(0, x.sways(0, 0));
        due(1, x.sways(0, 1));
    }

    private static void stick() {
        promise(19);
        due(-5, new LampVote().stick(0));
        due(-5, new LampVote().stick(1));
        due(-2, new LampVote().stick(2));
        due(-2, new LampVote().stick(-1));
        // wish 0 is set at 0, wish 1 at 2; both come to 4 and are alike
        LampVote x = new LampVote();
        x.voter(2, 0, 0, 0, 12);
        x.voter(2, 0, 2, 1, 12);
        tide(x, "weigh 2 p=1;weigh 3 p=2|p=0;weigh 4 p=4;weigh 7 p=3");
        due(-5, x.vote(2));
        // at 0: 4 to 5; at 1: 3 to 5; at 2, 3, 4 both lie alike
        due(0, x.stick(1));
        due(-5, x.stick(0));
        tide(x, "weigh 2 p=1");
        // at 1 alone wish 0 has more: a lamp that comes there stays there
        due(1, x.stick(0));
        due(-5, x.vote(2));
        due(4, x.lies(0, 0));
        due(4, x.drifts(0, 12));
        due(-5, x.stick(1));
        due(-5, x.vote(2));
        // what is so without a stick is so at the least place
        x.wish(1, 0);
        due(0, x.stick(0));
    }

    private static void set() {
        promise(20);
        LampVote x = under("weigh 4 p=2;weigh 4 p=3;weigh 8 p=1&m=5");
        x.place(1, 0, 1);
        x.place(2, 0, 2);
        x.place(3, 0, 3);
        x.voter(2, 0, 4, 0, 12);
        x.voter(2, 0, 4, 1, 12);
        due(2, x.set(0, 0));
        due(4, x.set(0, 1));
        due(2, x.set(1, 0));
        due(4, x.set(1, 1));
        x.voter(2, 0, 3, 1, 12);
        due(2, x.set(0, 0));
        due(-1, x.set(0, 1));
        due(-1001, x.set(3, 0));
        due(-1001, x.set(-1, 0));
        due(-1001, x.set(0, 2));
        due(-1001, x.set(0, -1));
        // asking sets no lamp anew
        due(4, x.of(0, 5));
        due(4, x.lies(0, 0));
        // oil is of where it is set then
        x = under("oil 3 p=3");
        x.voter(2, 0, 0, 1, 9);
        due(0, x.lies(0, 1));
        due(3, x.set(0, 0));
        due(1, x.set(0, 1));
        // a basin of its own is no better than another: the least
        x = wishing(0, 0);
        due(0, x.set(0, 0));
        due(2, x.set(0, 1));
    }

    private static void game() {
        promise(21);
        // all places are basins, of weights 1, 4, 6, 1, 1; the third voter's lamp lies at 0
        LampVote x = under("weigh 3 p=1;weigh 5 p=2");
        for (int p = 0; p < 4; p++) {
            x.place(p, 0, p);
        }
        x.voter(2, 0, 0, 0, 12);
        x.voter(2, 0, 0, 1, 12);
        x.voter(0, 0, 0, 1, 12);
        due(2, x.game(0, 1, 0));
        due(-1, x.game(0, 1, 1));
        due(2, x.game(1, 0, 0));
        due(1, x.game(1, 0, 1));
        // two of one wish
        due(2, x.game(1, 2, 0));
        due(11, x.game(1, 2, 1));
        due(-1002, x.game(0, 0, 0));
        due(-1002, x.game(2, 2, 1));
        due(-1001, x.game(0, 3, 0));
        due(-1001, x.game(-1, 0, 0));
        due(-1001, x.game(3, 3, 0));
        due(-1001, x.game(0, 1, 2));
        due(-1001, x.game(0, 0, 2));
        due(0, x.of(0, 5));
        tide(x, "weigh 3 p=0");
        due(0, x.game(0, 1, 0));
        due(-4, x.game(0, 1, 1));
        // the second one has no oil to count anywhere but at 4, the first one at 2 alone
        x = under("oil 1 p=2&m=0;oil 2 p=4&m=0;weigh 1 p=4");
        x.voter(2, 0, 0, 1, 11);
        x.voter(2, 0, 0, 0, 10);
        due(2, x.game(0, 1, 0));
        due(0, x.game(0, 1, 1));
        due(4, x.set(1, 0));
        due(2, x.set(1, 1));
    }

    private static void see() {
        promise(22);
        LampVote x = new LampVote();
        due(0, x.see(-1, 99));
        due(1, x.see(0, 0));
        due(2, x.see(4, 6));
        due(-1, x.see(5, 0));
        due(-1, x.see(-2, 0));
        due(-1, x.see(5, 7));
        due(-2, x.see(0, 7));
        due(-2, x.see(0, -1));
        due(2, x.count(2));
        for (int i = 3; i <= 6; i++) {
            due(i, x.see(0, 0));
        }
        due(-4, x.see(0, 0));
        due(-2, x.see(0, 7));
        due(-1, x.see(5, 0));
        due(6, x.count(2));
        due(0, x.see(-1, -1));
        due(0, x.count(2));
        due(1, x.see(1, 1));
    }

    private static void fits() {
        promise(23);
        LampVote x = new LampVote();
        due(-1, x.fits(0));
        x.voter(0, 0, 0, 0, 2);
        x.voter(0, 0, 0, 0, 3);
        due(31, x.fits(0));
        due(-1, x.fits(2));
        due(-1, x.fits(-1));
        // voter 1 lies at 3; voter 0 two places behind where it is set
        x.see(3, 1);
        due(29, x.fits(0));
        x.see(4, 1);
        due(28, x.fits(0));
        x.see(2, 0);
        due(28, x.fits(0));
        x.see(4, 0);
        due(0, x.fits(0));
        x.see(-1, 0);
        x.see(3, 2);
        due(2, x.fits(0));
        x.see(-1, 0);
        x.see(3, 0);
        // voter 0 lies at 2; voter 1 may lie at 4 alone then
        due(30, x.fits(1));
        x.see(2, 1);
        due(30, x.fits(1));
        due(0, x.fits(0));
        // a place that is no longer there has no lamps
        x = new LampVote();
        x.places(7);
        x.see(6, 0);
        x.places(2);
        x.voter(0, 0, 0, 0, 2);
        due(3, x.fits(0));
        x.see(-1, 0);
        // oil of where it could have been set
        x = under("oil 4 p=1");
        x.voter(0, 0, 0, 0, 0);
        x.see(1, 0);
        x.see(0, 0);
        due(30, x.fits(0));
    }

    private static void fair() {
        promise(24);
        LampVote x = new LampVote();
        due(0, x.fair(0));
        due(0, x.fair(1));
        due(-1, x.fair(2));
        due(-1, x.fair(-1));
        // lamps that lie: two at 1, one at 2, one at 3, dark ones all
        x.voter(0, 0, 1, 0, 0);
        x.voter(0, 0, 1, 0, 0);
        x.voter(0, 0, 2, 1, 0);
        x.voter(0, 0, 3, 1, 0);
        due(2, x.fair(0));
        due(0, x.fair(1));
        // place 0 is always of ward 0
        x = new LampVote();
        x.voter(0, 0, 0, 0, 0);
        due(0, x.fair(0));
        due(1, x.fair(1));
        x.voter(0, 0, 4, 0, 0);
        due(16, x.fair(0));
        due(0, x.fair(1));
        x.voter(0, 0, 0, 0, 0);
        due(16, x.fair(0));
        due(1, x.fair(1));
        // the wards that E asks for stay
        x = under("hold w=0");
        x.voter(0, 0, 0, 0, 12);
        x.voter(0, 0, 2, 0, 12);
        due(4, x.fair(0));
        due(0, x.fair(1));
        x.place(2, 2, 1);
        due(8, x.fair(0));
        due(0, x.fair(1));
        due(1, x.at(2, 2));
    }

    private static void tale() {
        promise(25);
        LampVote x = new LampVote();
        due(0, x.tale(-1, 99, 99));
        due(-1, x.tale(0, 0, 0));
        x.voter(0, 0, 0, 0, 0);
        due(1, x.tale(0, 0, 0));
        due(2, x.tale(0, 12, 4));
        due(-1, x.tale(1, 0, 0));
        due(-1, x.tale(-2, 0, 0));
        due(-1, x.tale(0, 0, 5));
        due(-1, x.tale(0, 0, -1));
        due(-1, x.tale(0, 13, 5));
        due(-2, x.tale(0, 13, 0));
        due(-2, x.tale(0, -1, 0));
        due(2, x.count(3));
        for (int i = 3; i <= 8; i++) {
            due(i, x.tale(0, 0, 0));
        }
        due(-4, x.tale(0, 0, 0));
        due(-2, x.tale(0, 13, 0));
        due(-1, x.tale(1, 0, 0));
        due(8, x.count(3));
        due(0, x.tale(-1, 0, 0));
        due(0, x.count(3));
        due(1, x.tale(0, 1, 1));
    }

    private static void looked() {
        promise(26);
        LampVote x = new LampVote();
        due(-5, x.looked());
        // delayed by two, three minutes of oil: 1, 1, 1, 2, 3, 4, 4 ..
        x.voter(0, 2, 1, 0, 3);
        int[] where = {1, 1, 1, 2, 3, 4, 4, 4};
        for (int m = 0; m < 8; m++) {
            x.tale(0, m, where[m]);
            due(-5, x.looked());
        }
        x.tale(-1, 0, 0);
        x.tale(0, 12, 4);
        due(-5, x.looked());
        x.tale(0, 2, 2);
        due(1, x.looked());
        x.tale(0, 3, 3);
        due(1, x.looked());
        // dark, it stays where it is
        x.tale(-1, 0, 0);
        x.voter(0, 0, 0, 0, 2);
        x.tale(1, 1, 1);
        x.tale(1, 2, 2);
        x.tale(1, 3, 2);
        x.tale(1, 12, 2);
        due(-5, x.looked());
        x.tale(1, 3, 3);
        due(4, x.looked());
        // it is looked at from the minute that is now
        x = under("hold p=0&m<3");
        x.voter(2, 0, 0, 0, 12);
        x.tale(0, 4, 1);
        due(-5, x.looked());
        x.minutes(2);
        due(0, x.looked());
    }

    /** One voter of each kind but VOTER, numbered kind less 1, with v 3. */
    private static LampVote kinds() {
        LampVote x = new LampVote();
        for (int kind = 1; kind <= 6; kind++) {
            x.voter(kind, 3, 0, 0, 0);
        }
        return x;
    }

    private static void traced(LampVote x, int... bodies) {
        due(bodies.length, x.count(5));
        for (int i = 0; i < bodies.length; i++) {
            due(bodies[i], x.trace(i));
        }
        due(-1, x.trace(bodies.length));
    }

    private static void act() {
        promise(27);
        LampVote x = new LampVote();
        due(0, x.act(0, 0, 5));
        x.voter(0, 4, 0, 0, 0);
        x.voter(0, 4, 0, 0, 0);
        due(6, x.act(1, 0, 5));
        traced(x, 1);
        due(2, x.act(1, 1, 5));
        traced(x, 2, 1);
        due(4, x.act(1, 2, 5));
        traced(x, 3, 2, 1);
        due(Integer.MIN_VALUE, x.act(1, 0, Integer.MAX_VALUE));
        due(0, x.act(1, 3, 5));
        traced(x);
        x.act(1, 2, 5);
        due(0, x.act(1, -1, 5));
        traced(x);
        x.act(1, 2, 5);
        due(0, x.act(2, 0, 5));
        traced(x);
        x = kinds();
        // upper, number 0
        due(15, x.act(0, 0, 5));
        traced(x, 11, 1);
        due(12, x.act(0, 1, 5));
        traced(x, 2, 11, 1);
        due(24, x.act(0, 2, 5));
        traced(x, 3, 2, 11, 1);
        due((int) (3L * 2000000000), x.act(0, 0, 2000000000));
        // early, number 1
        due(6, x.act(1, 0, 5));
        traced(x, 1);
        due(-3, x.act(1, 1, 5));
        traced(x, 21, 2, 1);
        due(-6, x.act(1, 2, 5));
        traced(x, 3, 21, 2, 1);
        // crowd, number 2
        due(7, x.act(2, 0, 5));
        due(4, x.act(2, 1, 5));
        due(8 ^ 7, x.act(2, 2, 5));
        traced(x, 31, 3, 2, 1);
        // served, number 3: tells 4 is (12 + 3 - 3) * 2, sets 2 is 6 + 3
        due(18, x.act(3, 0, 5));
        due(15, x.act(3, 1, 5));
        due(24 + 9, x.act(3, 2, 5));
        traced(x, 41, 3, 2, 11, 1, 11, 1);
        // friend, number 4
        due(9 ^ 4, x.act(4, 0, 5));
        traced(x, 51, 1);
        due(-((9 ^ 4) - 3), x.act(4, 1, 5));
        traced(x, 21, 2, 51, 1);
        due(-((9 ^ 4) - 3) * 2, x.act(4, 2, 5));
        traced(x, 3, 21, 2, 51, 1);
        // told, number 5
        due(10, x.act(5, 0, 5));
        due(10, x.act(5, 1, 5));
        traced(x, 61, 2, 1);
        due(20 ^ 7, x.act(5, 2, 5));
        traced(x, 31, 3, 61, 2, 1);
    }

    private static void trace() {
        promise(28);
        LampVote x = new LampVote();
        due(-1, x.trace(0));
        x.voter(4, 0, 0, 0, 0);
        x.act(0, 2, 0);
        due(41, x.trace(0));
        due(1, x.trace(6));
        due(-1, x.trace(7));
        due(-1, x.trace(-1));
        due(-1, x.trace(20));
        due(-1, x.trace(Integer.MAX_VALUE));
        // only an act makes another trace
        x.image();
        x.vote(0);
        x.undo();
        due(41, x.trace(0));
        x.act(0, 0, 0);
        due(11, x.trace(0));
        due(1, x.trace(1));
        due(-1, x.trace(2));
    }

    private static void as() {
        promise(29);
        LampVote x = kinds();
        // which kinds each is taken for, as bits of kinds
        int[] taken = {0b11, 0b101, 0b1001, 0b10011, 0b100101, 0b1001001};
        for (int i = 0; i < 6; i++) {
            for (int k = 0; k < 7; k++) {
                due((taken[i] >> k & 1) == 1 ? 3 : -6, x.as(i, k));
            }
        }
        due(-1, x.as(0, 7));
        due(-1, x.as(0, -1));
        due(-1, x.as(6, 0));
        due(-1, x.as(-1, 0));
        x = new LampVote();
        x.voter(0, 8, 0, 0, 0);
        due(8, x.as(0, 0));
        for (int k = 1; k < 7; k++) {
            due(-6, x.as(0, k));
        }
    }

    private static void image() {
        promise(30);
        LampVote x = new LampVote();
        due(0, x.image());
        x.voter(0, 0, 0, 0, 0);
        due(1, x.image());
        x.voter(0, 0, 0, 0, 0);
        due(2, x.image());
        // the later image stands in for the one ahead
        x.voter(0, 0, 0, 0, 0);
        due(2, x.undo());
        due(2, x.count(0));
    }

    private static void undo() {
        promise(31);
        LampVote x = new LampVote();
        due(-3, x.undo());
        tide(x, "weigh 2 p=0");
        x.place(0, 1, 2);
        x.voter(6, 1, 1, 1, 5);
        x.row(0, 0, 3);
        x.see(1, 2);
        x.tale(0, 0, 3);
        x.minutes(3);
        type(x, "si");
        x.act(0, 0, 7);
        due(1, x.image());
        type(x, "de p=1");
        due(1, x.tide());
        type(x, "zzz");
        x.place(0, 0, 4);
        x.place(0, 1, -1);
        x.place(1, 2, 2);
        x.wish(0, 0);
        x.row(0, 0, 4);
        x.row(0, 1, 4);
        x.voter(3, 3, 3, 0, 3);
        x.see(-1, 0);
        x.see(2, 2);
        x.see(2, 3);
        x.tale(-1, 0, 0);
        x.minutes(7);
        x.act(0, 1, 9);
        due(1, x.undo());
        due(1, x.count(0));
        due(1, x.count(1));
        due(1, x.count(2));
        due(1, x.count(3));
        due(2, x.count(4));
        due(3, x.at(0, 5));
        due(1, x.at(0, 0));
        due(2, x.at(0, 1));
        due(0, x.at(1, 2));
        due(1, x.of(0, 3));
        due(3, x.of(0, 5));
        due(3, x.minutes(0));
        due(-5, x.looked());
        due(0, x.fits(0));
        // the tape is as it was, the trace is not touched
        type(x, "de p=0");
        due(1, x.tide());
        due(2, x.at(0, 4));
        due(3, x.count(5));
        due(61, x.trace(0));
        // the image is there again and again, whatever came behind an undo
        x.row(0, 0, 1);
        x.voter(0, 0, 0, 0, 0);
        due(1, x.undo());
        due(3, x.row(0, 0, 0));
        due(0, x.row(0, 1, 0));
        // a voter made anew has no row of the one that was undone
        x.voter(6, 0, 0, 0, 0);
        x.row(1, 0, 4);
        due(1, x.undo());
        x.voter(6, 0, 0, 0, 0);
        due(0, x.row(1, 0, 0));
        // what was seen and told then, not as many of what came since
        x = new LampVote();
        x.voter(0, 0, 0, 0, 2);
        x.voter(0, 0, 3, 0, 0);
        x.see(2, 1);
        x.see(3, 1);
        x.tale(0, 1, 1);
        x.tale(1, 5, 3);
        x.image();
        x.see(-1, 0);
        x.see(4, 3);
        x.see(1, 5);
        x.tale(-1, 0, 0);
        x.tale(1, 7, 4);
        x.tale(0, 9, 0);
        x.undo();
        due(2, x.count(2));
        due(1, x.fits(0));
        due(2, x.count(3));
        due(-5, x.looked());
        x.tale(1, 0, 0);
        due(2, x.looked());
        // fewer voters than then, and other places
        LampVote y = new LampVote();
        y.places(3);
        due(0, y.image());
        y.places(7);
        y.voter(0, 0, 6, 0, 0);
        due(0, y.undo());
        due(3, y.places(3));
    }

    private static void count() {
        promise(32);
        LampVote x = new LampVote();
        due(-1, x.count(-1));
        due(-1, x.count(6));
        x.voter(4, 0, 0, 0, 0);
        x.voter(0, 0, 0, 0, 0);
        tide(x, "side p=1");
        type(x, "side");
        x.see(0, 0);
        x.see(0, 0);
        x.see(0, 0);
        x.tale(0, 0, 0);
        x.act(0, 2, 0);
        int[] many = {2, 1, 3, 1, 4, 7};
        for (int what = 0; what < 6; what++) {
            due(many[what], x.count(what));
        }
    }
}
