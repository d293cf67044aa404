/**
 * Each sentence of the document on THE TAPE and the TIDES that are read from it, at its edges: which
 * signs can go on where, where a FAULT is, how many may be open, how many CLAUSES there may be.
 */
public final class TapeTests {
    private static int wrong = 0;
    private static int row = 0;
    private static String sentence = "";

    public static void main(String[] args) {
        tape();
        signs();
        openOnes();
        faults();
        clauses();
        tests();
        System.out.println(wrong == 0 ? "TapeTests: all answers are as due" : wrong + " answers are not as due");
        if (wrong != 0) {
            System.exit(1);
        }
    }

    private static void says(String text) {
        sentence = text;
        row = 0;
    }

    private static void due(long want, long got) {
        row++;
        if (got != want) {
            wrong++;
            System.out.println("\"" + sentence + "\", row " + row + ": answered " + got + ", due is " + want);
        }
    }

    private static void type(LampVote x, String text) {
        for (int i = 0; i < text.length(); i++) {
            x.feed(text.charAt(i));
        }
    }

    private static int tide(LampVote x, String text) {
        type(x, text);
        return x.tide();
    }

    private static LampVote under(String tide) {
        LampVote x = new LampVote();
        due(0, tide(x, tide));
        return x;
    }

    /** Water that goes round: p to p + 1, the last one to 0. */
    private static LampVote ring(int places) {
        LampVote x = new LampVote();
        x.places(places);
        x.place(places - 1, 0, 0);
        return x;
    }

    /** Each place keeps its water. */
    private static LampVote basins(int places) {
        LampVote x = new LampVote();
        x.places(places);
        for (int p = 0; p < places; p++) {
            x.place(p, 0, p);
        }
        return x;
    }

    private static LampVote at(LampVote x, int minute) {
        for (int m = 0; m < minute; m += 60) {
            x.minutes(Math.min(60, minute - m));
        }
        return x;
    }

    private static final String TEN = "p=1;side ".repeat(9) + "p=1";

    private static void tape() {
        says("THE TAPE (bytes, 100 at most): how many it has");
        LampVote x = new LampVote();
        for (int i = 1; i <= 100; i++) {
            due(i, x.feed(i));
        }
        due(-4, x.feed(0));
        due(-4, x.feed(127));
        due(100, x.count(4));
        says("a TIDE of a hundred bytes");
        x = under("weigh 3 " + "p=1|".repeat(22) + "p=10");
        due(4, x.at(1, 5));
        due(1, x.at(2, 5));
        says("a hundred bytes that end too early: a FAULT at the size");
        due(-110, tide(new LampVote(), "weigh 33 (" + "p=1&".repeat(22) + "p="));
        due(-110, tide(new LampVote(), "weigh 3 " + "p=1&".repeat(23)));
        says("a FAULT at the last of a hundred bytes");
        due(-109, tide(new LampVote(), "weigh 3 " + "p=1&".repeat(22) + "p=1 "));
        says("THE TAPE, which is empty then");
        x = new LampVote();
        type(x, "side p=1");
        due(8, x.count(4));
        due(0, x.tide());
        due(0, x.count(4));
        due(1, x.feed('p'));
        says("by a FAULT, too (the one that held holds)");
        x = under("weigh 8 p=0");
        type(x, "weigh 5 p=0;x");
        due(-22, x.tide());
        due(0, x.count(4));
        due(9, x.at(0, 5));
        due(1, x.count(1));
        says("an empty THE TAPE ends too early, at 0");
        due(-10, new LampVote().tide());
        due(-10, x.tide());
        due(9, x.at(0, 5));
    }

    /** Of all signs those of the text, and no others, can go on behind the prefix. */
    private static void goesOn(String prefix, String allowed) {
        for (int sign = 0; sign < 128; sign++) {
            LampVote x = new LampVote();
            type(x, prefix);
            x.feed(sign);
            int answer = x.tide();
            boolean goes = answer != -10 - prefix.length();
            due(allowed.indexOf(sign) >= 0 ? sign : -1, goes ? sign : -1);
        }
    }

    private static void signs() {
        String e = "pqmw!(";
        String digits = "0123456789";
        says("side E; hold E; oil n E; weigh n E: the words, and the blank behind them");
        goesOn("", "show");
        String[] words = {"side ", "hold ", "oil ", "weigh "};
        for (String word : words) {
            for (int i = 1; i < word.length(); i++) {
                goesOn(word.substring(0, i), word.substring(i, i + 1));
            }
        }
        goesOn("side ", e);
        goesOn("hold ", e);
        says("n 1 or 2 digits, no 0 ahead of another, one blank ahead of each part");
        for (String word : new String[] {"oil ", "weigh "}) {
            goesOn(word, digits);
            goesOn(word + "0", " ");
            goesOn(word + "1", digits + " ");
            goesOn(word + "9", digits + " ");
            goesOn(word + "10", " ");
            goesOn(word + "99", " ");
            goesOn(word + "0 ", e);
            goesOn(word + "7 ", e);
            goesOn(word + "99 ", e);
        }
        says("a TEST: p or q or m or w, one of < = >, a number likewise");
        for (String subject : new String[] {"p", "q", "m", "w"}) {
            goesOn("side " + subject, "<=>");
            goesOn("oil 5 " + subject, "<=>");
            for (String relation : new String[] {"<", "=", ">"}) {
                goesOn("hold " + subject + relation, digits);
            }
        }
        goesOn("side p=0", "&|;");
        goesOn("side p=1", digits + "&|;");
        goesOn("side p=9", digits + "&|;");
        goesOn("side p=10", "&|;");
        goesOn("side p=99", "&|;");
        says("E: T, or T|E. T: F, or F&T. F: !F, (E), or a TEST");
        goesOn("side p=1&", e);
        goesOn("side p=1|", e);
        goesOn("side p=0&p=0", "&|;");
        goesOn("side !", e);
        goesOn("side !p=0", "&|;");
        goesOn("side (", e);
        goesOn("side (p=0", "&|)");
        goesOn("side (p=1", digits + "&|)");
        goesOn("side (p=0&", e);
        goesOn("side (p=0)", "&|;");
        goesOn("side ((p=0)", "&|)");
        goesOn("side !(p=0", "&|)");
        goesOn("side (!p=0", "&|)");
        goesOn("side !(p=0)", "&|;");
        says("CLAUSES with ; between");
        goesOn("side p=0;", "show");
        goesOn("weigh 3 (p=0);", "show");
        goesOn("side p=0;s", "i");
    }

    private static void openOnes() {
        says("At most 5 of ! and ( are open");
        goesOn("side !!!!", "pqmw!(");
        goesOn("side !!!!!", "pqmw");
        goesOn("side ((((", "pqmw!(");
        goesOn("side (((((", "pqmw");
        goesOn("side !(!(", "pqmw!(");
        goesOn("side !(!(!", "pqmw");
        goesOn("side (!(!(", "pqmw");
        says("a ( till its )");
        goesOn("side (((((p=0", "&|)");
        goesOn("side (((((p=0&", "pqmw");
        goesOn("side (((((p=0)", "&|)");
        goesOn("side (((((p=0)&", "pqmw!(");
        goesOn("side (((((p=0)&(", "pqmw");
        goesOn("side (((((p=0)|!", "pqmw");
        goesOn("side (((((p=0))))", "&|)");
        goesOn("side (((((p=0)))))", "&|;");
        goesOn("side (((((p=0)))))&!!!!", "pqmw!(");
        goesOn("side (((((p=0)))))&!!!!!", "pqmw");
        says("a ! till its F ends");
        goesOn("side !!!!!p=0&", "pqmw!(");
        goesOn("side !!!!!p=0|!!!!!", "pqmw");
        goesOn("side ((((!p=0|", "pqmw!(");
        goesOn("side ((((!p=0)", "&|)");
        goesOn("side !!!!(p=0", "&|)");
        goesOn("side !!!!(p=0&", "pqmw");
        goesOn("side !!!!(p=0)", "&|;");
        goesOn("side !!!!(p=0)&!!!!", "pqmw!(");
        goesOn("side !(((!p=0&", "pqmw!(");
        goesOn("side !(((!p=0&(", "pqmw");
        goesOn("side !(((!p=0&(p=0)))&", "pqmw!(");
        says("5 of ( open, each with a | and an & that wait for what stands in it");
        holds(ring(7), "p=9|p<9&(p=9|p<9&(p=9|p<9&(p=9|p<9&(p=9|p<9&(p=9|p<9&p=2)))))", 0, 0, 1, 0, 0, 0, 0);
        holds(ring(7), "p=5|p<9&(p=3|p<9&(p=9|p>3&(p=9|p<9&(p=4|p<9&(p=9|p=2&p=2)))))", 0, 0, 0, 1, 1, 1, 0);
        holds(ring(7), "p=9|p<9&!(p=9|p<9&!(p=9|p<9&p=2))", 0, 0, 1, 0, 0, 0, 0);
        says("none is open in the next CLAUSE");
        goesOn("side !!!!!p=0;hold !!!!", "pqmw!(");
        goesOn("side !!!!!p=0;hold !!!!!", "pqmw");
        goesOn("hold (((((p=0)))));side ((((", "pqmw!(");
    }

    private static void fault(int place, String text) {
        LampVote x = new LampVote();
        due(-10 - place, tide(x, text));
    }

    private static void faults() {
        says("FAULT: the place of the first byte with which no TIDE can go on");
        fault(0, "?");
        fault(0, "?side p=1");
        fault(1, "s?de p=1");
        fault(4, "side?p=1");
        fault(5, "side ?=1");
        fault(6, "side p?1");
        fault(7, "side p=?");
        fault(8, "side p=1?");
        fault(9, "side p=12?");
        fault(9, "side p=123");
        fault(8, "side p=01");
        fault(9, "side p=1;?");
        fault(5, "oil 1?p=1");
        fault(5, "oil 00 p=1");
        fault(6, "oil 100 p=1");
        says("the first of several");
        fault(1, "sxxx x=x");
        fault(6, "side pp=1;x");
        says("the size, if it ends too early");
        String whole = "weigh 10 !(p=1|q<22);oil 5 m>3&w=0";
        for (int size = 0; size < whole.length(); size++) {
            String part = whole.substring(0, size);
            boolean sound = part.endsWith("(p=1|q<22)") || part.endsWith("m>3") || part.endsWith("w=0");
            due(sound ? 0 : -10 - size, tide(new LampVote(), part));
        }
        due(0, tide(new LampVote(), whole));
        says("what was read ahead of a FAULT is gone, be there much of it");
        LampVote y = new LampVote();
        for (int i = 0; i < 4; i++) {
            due(-99, tide(y, "hold " + "p=2&".repeat(21) + "?"));
        }
        due(0, tide(y, "weigh 3 " + "p=1&".repeat(21) + "p=1"));
        due(4, y.at(1, 5));
        due(1, y.at(2, 5));
        LampVote x = new LampVote();
        fault(16, "weigh 9 !(p=1&!(");
        due(-26, tide(x, "weigh 9 ((((p<9&"));
        due(0, tide(x, "weigh 2 !((((p=1))))"));
        due(3, x.at(0, 5));
        due(1, x.at(1, 5));
    }

    private static void clauses() {
        says("CLAUSES, 10 at most");
        goesOn("side " + TEN, "0123456789&|");
        goesOn("side " + TEN.substring(0, TEN.length() - 9), "0123456789&|;");
        due(0, tide(new LampVote(), "side " + TEN));
        fault(89, "side " + TEN + ";");
        fault(89, "side " + TEN + ";hold p=1");
        says("all 10 of them hold, together");
        LampVote x = under("oil 1 p<9;".repeat(9) + "oil 1 p<9");
        x.voter(0, 0, 0, 0, 0);
        x.voter(0, 0, 0, 0, 2);
        due(10, x.of(0, 7));
        due(12, x.of(1, 7));
        says("the first and the last of 10, each of another word");
        x = under("hold p=0;" + "oil 1 p=3;".repeat(8) + "side p=1");
        x.place(1, 1, 4);
        x.voter(0, 0, 3, 0, 1);
        due(0, x.at(0, 4));
        due(4, x.at(1, 4));
        due(9, x.of(0, 7));
        says("n: 0, 9, 10, 99");
        int[] ns = {0, 1, 9, 10, 98, 99};
        for (int n : ns) {
            due(1 + n, under("weigh " + n + " p=0").at(0, 5));
        }
        says("the n of all weigh whose E holds, together");
        x = under("weigh 99 p<9;".repeat(6) + "weigh 99 p=0");
        due(1 + 99 * 7, x.at(0, 5));
        due(1 + 99 * 6, x.at(1, 5));
        says("WEIGHT: 1, where none holds");
        x = under("weigh 99 p=0");
        due(1, x.at(1, 5));
    }

    private static void holds(LampVote x, String e, int... weights) {
        due(0, Math.min(0, tide(x, "weigh 1 " + e)));
        for (int p = 0; p < weights.length; p++) {
            due(weights[p] + 1, x.at(p, 5));
        }
    }

    private static void tests() {
        says("one of < = >: beside the number");
        holds(ring(7), "p<3", 1, 1, 1, 0, 0, 0, 0);
        holds(ring(7), "p=3", 0, 0, 0, 1, 0, 0, 0);
        holds(ring(7), "p>3", 0, 0, 0, 0, 1, 1, 1);
        holds(ring(7), "p<0", 0, 0, 0, 0, 0, 0, 0);
        holds(ring(7), "p>0", 0, 1, 1, 1, 1, 1, 1);
        holds(ring(7), "p>6", 0, 0, 0, 0, 0, 0, 0);
        holds(ring(7), "p<6", 1, 1, 1, 1, 1, 1, 0);
        holds(ring(7), "p=6", 0, 0, 0, 0, 0, 0, 1);
        holds(ring(7), "p<99", 1, 1, 1, 1, 1, 1, 1);
        holds(ring(7), "p>99", 0, 0, 0, 0, 0, 0, 0);
        holds(ring(7), "p=16", 0, 0, 0, 0, 0, 0, 0);
        holds(ring(7), "p<10", 1, 1, 1, 1, 1, 1, 1);
        says("q its NEXT one's, of a BASIN its own");
        holds(ring(7), "q=0", 0, 0, 0, 0, 0, 0, 1);
        holds(new LampVote(), "q=4", 0, 0, 0, 1, 1);
        holds(basins(7), "q=6", 0, 0, 0, 0, 0, 0, 1);
        says("w its WARD");
        LampVote x = ring(3);
        x.place(1, 2, 1);
        x.place(2, 2, 2);
        holds(x, "w=0", 1, 0, 0);
        holds(x, "w=1", 0, 1, 0);
        holds(x, "w>1", 0, 0, 1);
        x.place(2, 2, 0);
        holds(x, "w<1", 1, 0, 1);
        says("m MINUTE modulo 12");
        int[][] minutes = {{0, 0}, {1, 1}, {11, 11}, {12, 0}, {13, 1}, {23, 11}, {24, 0}, {143, 11}, {144, 0}, {9999, 3}};
        for (int[] pair : minutes) {
            x = at(new LampVote(), pair[0]);
            holds(x, "m=" + pair[1], 1);
            holds(x, "m<" + pair[1], 0);
            holds(x, "m>" + pair[1], 0);
        }
        x = at(new LampVote(), 12);
        holds(x, "m=12", 0);
        holds(x, "m>11", 0);
        x = at(new LampVote(), 11);
        holds(x, "m<11", 0);
        holds(x, "m<12", 1);
        says("& ahead of |, ! ahead of &");
        holds(ring(4), "p=0|p=1&p=2", 1, 0, 0, 0);
        holds(ring(4), "p=0&p=1|p=2", 0, 0, 1, 0);
        holds(ring(4), "!p=0&p=1", 0, 1, 0, 0);
        holds(ring(4), "!p=0|p=0", 1, 1, 1, 1);
        holds(ring(4), "!(p=0|p=1)", 0, 0, 1, 1);
        holds(ring(4), "(p=0|p=1)&!p=0", 0, 1, 0, 0);
        says("5 of ! turn it over, 4 don't");
        holds(ring(4), "!!!!!p=1", 1, 0, 1, 1);
        holds(ring(4), "!!!!p=1", 0, 1, 0, 0);
    }
}
