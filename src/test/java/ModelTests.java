import java.util.ArrayList;
import java.util.Arrays;
import java.util.List;
import java.util.regex.Matcher;
import java.util.regex.Pattern;

/**
 * Long runs of calls on LampVote and on a second program, written as plainly as the document
 * speaks: tides kept as texts, lamps followed minute by minute, kinds as Java classes.
 */
public final class ModelTests {
    private static int wrong = 0;
    private static long seed = 1;

    public static void main(String[] args) {
        for (int run = 1; run <= 3000 && wrong < 20; run++) {
            seed = run * 7919L;
            play(run);
        }
        for (int i = 0; i < 3000 && wrong < 20; i++) {
            seed = 1_000_003L * (i + 1);
            readTape(i);
        }
        System.out.println(wrong == 0 ? "ModelTests: all answers are alike" : wrong + " answers differ");
        if (wrong != 0) {
            System.exit(1);
        }
    }

    // ---- chance: a sequence of its own, the same on every machine

    private static int below(int n) {
        seed = seed * 6364136223846793005L + 1442695040888963407L;
        return (int) ((seed >>> 33) % n);
    }

    private static boolean oneIn(int n) {
        return below(n) == 0;
    }

    private static char anyOf(String signs) {
        return signs.charAt(below(signs.length()));
    }

    private static int between(int least, int most) {
        return least + below(most - least + 1);
    }

    // ---- runs

    private static final String[] CALLS = {
        "feed", "tide", "places", "place", "place", "place", "at", "voter", "voter", "of", "of", "wish", "row",
        "minutes", "vote", "lies", "lies", "ward", "drifts", "from", "turns", "sways", "stick", "set", "game",
        "see", "see", "fits", "fair", "tale", "tale", "tale", "looked", "act", "trace", "as", "image", "undo", "count",
        "text"
    };

    private static void play(int run) {
        Run r = new Run(run);
        if (oneIn(2)) {
            r.call("places");
        }
        for (int p = 0; p < r.model.n; p++) {
            for (int what = 0; what < 3; what++) {
                if (oneIn(2)) {
                    r.call("place", p, what, what == 2 ? below(3) : below(r.model.n));
                }
            }
        }
        if (!oneIn(3)) {
            r.tide();
        }
        if (oneIn(3)) {
            r.call("image");
        }
        for (int i = below(7); i > 0; i--) {
            r.call("voter");
        }
        while (r.left > 0 && wrong < 20) {
            String call = CALLS[below(CALLS.length)];
            if (call.equals("text")) {
                r.tide();
            } else if (!call.equals("tide") && !call.equals("undo") || oneIn(3)) {
                r.call(call);
            }
        }
    }

    /** Both programs, with the calls that are left and those that were. */
    private static final class Run {
        final int number;
        final LampVote lamp = new LampVote();
        final Model model = new Model();
        final List<String> told = new ArrayList<>();
        int left = 512;

        Run(int number) {
            this.number = number;
        }

        void tide() {
            String text = oneIn(3) ? spoilt(tideText()) : tideText();
            for (int i = 0; i < text.length(); i++) {
                call("feed", text.charAt(i));
            }
            call("tide");
        }

        void call(String call) {
            call(call, arguments(call, model));
        }

        void call(String call, int... a) {
            if (left == 0 || wrong >= 20) {
                return;
            }
            left--;
            long got = lampAnswer(lamp, call, a);
            long due = modelAnswer(model, call, a);
            told.add(call + Arrays.toString(a) + " " + due);
            if (got != due) {
                wrong++;
                System.out.println("run " + number + ": " + call + Arrays.toString(a) + " answered " + got
                        + ", due is " + due);
                System.out.println("   after " + told);
            }
        }
    }

    private static int some(int least, int most) {
        if (oneIn(300)) {
            return oneIn(2) ? Integer.MIN_VALUE + below(3) : Integer.MAX_VALUE - below(3);
        }
        return oneIn(14) ? between(least - 2, most + 2) : between(least, most);
    }

    private static int somePlace(Model m) {
        return some(0, m.n - 1);
    }

    private static int someVoter(Model m) {
        return some(0, Math.max(0, m.voters.size() - 1));
    }

    private static int[] arguments(String call, Model m) {
        int v = someVoter(m);
        int p = somePlace(m);
        switch (call) {
            case "feed":
                return new int[] {oneIn(6) ? some(0, 127) : anyOf("side hold oil weigh pqmw<=>&|!();0123456789")};
            case "places":
                return new int[] {some(2, 7)};
            case "place":
                int what = some(0, 2);
                return new int[] {p, what, what == 2 ? some(0, 2) : what == 1 ? some(-1, m.n - 1) : somePlace(m)};
            case "at":
                return new int[] {p, some(0, 5)};
            case "voter":
                return new int[] {some(0, 6), some(0, 9), p, some(0, 1), oneIn(2) ? some(8, 12) : some(0, 12)};
            case "of":
                return new int[] {v, some(0, 7)};
            case "wish":
                return new int[] {v, some(0, 1)};
            case "row":
                return new int[] {v, some(0, 2), p};
            case "minutes":
                return new int[] {oneIn(3) ? some(0, 60) : some(0, 12)};
            case "vote":
            case "ward":
                return new int[] {some(0, 2)};
            case "turns":
            case "stick":
            case "fair":
                return new int[] {some(0, 1)};
            case "lies":
            case "sways":
            case "set":
                return new int[] {v, some(0, 1)};
            case "drifts":
                return new int[] {p, some(0, 12)};
            case "from":
                return new int[] {p, some(0, 12), some(0, 1)};
            case "game":
                return new int[] {v, someVoter(m), some(0, 1)};
            case "see":
                int[] lamps = m.lamps(m.starts());
                boolean sound = p >= 0 && p < m.n && !oneIn(4);
                return new int[] {oneIn(4) ? -1 : p, sound ? Math.max(0, lamps[p] - below(2)) : some(0, 6)};
            case "fits":
                return new int[] {v};
            case "tale":
                return tale(m, oneIn(8) ? -1 : v, p);
            case "act":
                return new int[] {v, some(0, 2), oneIn(3) ? (int) (seed >>> 20) : some(-9, 9)};
            case "trace":
                return new int[] {some(0, 6)};
            case "as":
                return new int[] {v, some(0, 6)};
            case "count":
                return new int[] {some(0, 5)};
            default:
                return new int[0];
        }
    }

    /** Most tales are true when they are told, so that what is looked at is not always the first. */
    private static int[] tale(Model m, int v, int p) {
        int minute = some(0, 12);
        boolean sound = v >= 0 && v < m.voters.size() && minute >= 0 && minute <= 12;
        int place = sound && !oneIn(4) ? m.lampPlaces(v, m.setsAt(v), -1)[minute] : p;
        return new int[] {v, minute, place};
    }

    private static long lampAnswer(LampVote x, String call, int[] a) {
        switch (call) {
            case "feed": return x.feed(a[0]);
            case "tide": return x.tide();
            case "places": return x.places(a[0]);
            case "place": return x.place(a[0], a[1], a[2]);
            case "at": return x.at(a[0], a[1]);
            case "voter": return x.voter(a[0], a[1], a[2], a[3], a[4]);
            case "of": return x.of(a[0], a[1]);
            case "wish": return x.wish(a[0], a[1]);
            case "row": return x.row(a[0], a[1], a[2]);
            case "minutes": return x.minutes(a[0]);
            case "vote": return x.vote(a[0]);
            case "lies": return x.lies(a[0], a[1]);
            case "ward": return x.ward(a[0]);
            case "drifts": return x.drifts(a[0], a[1]);
            case "from": return x.from(a[0], a[1], a[2]);
            case "turns": return x.turns(a[0]);
            case "sways": return x.sways(a[0], a[1]);
            case "stick": return x.stick(a[0]);
            case "set": return x.set(a[0], a[1]);
            case "game": return x.game(a[0], a[1], a[2]);
            case "see": return x.see(a[0], a[1]);
            case "fits": return x.fits(a[0]);
            case "fair": return x.fair(a[0]);
            case "tale": return x.tale(a[0], a[1], a[2]);
            case "looked": return x.looked();
            case "act": return x.act(a[0], a[1], a[2]);
            case "trace": return x.trace(a[0]);
            case "as": return x.as(a[0], a[1]);
            case "image": return x.image();
            case "undo": return x.undo();
            case "count": return x.count(a[0]);
            default: throw new IllegalStateException(call);
        }
    }

    private static long modelAnswer(Model x, String call, int[] a) {
        switch (call) {
            case "feed": return x.feed(a[0]);
            case "tide": return x.tide();
            case "places": return x.places(a[0]);
            case "place": return x.place(a[0], a[1], a[2]);
            case "at": return x.at(a[0], a[1]);
            case "voter": return x.voter(a[0], a[1], a[2], a[3], a[4]);
            case "of": return x.of(a[0], a[1]);
            case "wish": return x.wish(a[0], a[1]);
            case "row": return x.row(a[0], a[1], a[2]);
            case "minutes": return x.minutes(a[0]);
            case "vote": return x.vote(a[0]);
            case "lies": return x.lies(a[0], a[1]);
            case "ward": return x.wardOf(a[0]);
            case "drifts": return x.drifts(a[0], a[1]);
            case "from": return x.from(a[0], a[1], a[2]);
            case "turns": return x.turns(a[0]);
            case "sways": return x.sways(a[0], a[1]);
            case "stick": return x.stick(a[0]);
            case "set": return x.set(a[0], a[1]);
            case "game": return x.game(a[0], a[1], a[2]);
            case "see": return x.see(a[0], a[1]);
            case "fits": return x.fits(a[0]);
            case "fair": return x.fair(a[0]);
            case "tale": return x.tale(a[0], a[1], a[2]);
            case "looked": return x.looked();
            case "act": return x.act(a[0], a[1], a[2]);
            case "trace": return x.trace(a[0]);
            case "as": return x.as(a[0], a[1]);
            case "image": return x.image();
            case "undo": return x.undo();
            case "count": return x.count(a[0]);
            default: throw new IllegalStateException(call);
        }
    }

    // ---- tides by chance

    private static String tideText() {
        StringBuilder text = new StringBuilder(clause());
        for (int i = below(8); i > 0; i--) {
            String next = ";" + clause();
            if (text.length() + next.length() <= 100) {
                text.append(next);
            }
        }
        return text.length() <= 100 ? text.toString() : "side p<3";
    }

    private static String clause() {
        switch (below(4)) {
            case 0: return "side " + either(0);
            case 1: return "hold " + either(0);
            case 2: return "oil " + amount() + " " + either(0);
            default: return "weigh " + amount() + " " + either(0);
        }
    }

    private static String amount() {
        return "" + (oneIn(4) ? below(100) : below(10));
    }

    private static String either(int open) {
        String text = both(open);
        while (oneIn(4)) {
            text += "|" + both(open);
        }
        return text;
    }

    private static String both(int open) {
        String text = factor(open);
        while (oneIn(4)) {
            text += "&" + factor(open);
        }
        return text;
    }

    private static String factor(int open) {
        if (open < 5 && oneIn(6)) {
            return "!" + factor(open + 1);
        }
        if (open < 5 && oneIn(6)) {
            return "(" + either(open + 1) + ")";
        }
        int most = oneIn(10) ? 99 : 8;
        return "" + anyOf("pqmw") + anyOf("<=>") + below(most + 1);
    }

    private static String spoilt(String text) {
        int i = below(text.length() + 1);
        String sign = "" + anyOf(" side&|!()<=>;019xpqmw");
        switch (below(4)) {
            case 0: return text.substring(0, i);
            case 1: return (text.substring(0, i) + sign + text.substring(i)).substring(0, Math.min(100, text.length() + 1));
            case 2: return i < text.length() ? text.substring(0, i) + sign + text.substring(i + 1) : text;
            default: return i < text.length() ? text.substring(0, i) + text.substring(i + 1) : text;
        }
    }

    private static String deepText() {
        StringBuilder text = new StringBuilder("hold ");
        for (int i = below(7); i > 0; i--) {
            text.append(oneIn(2) ? '!' : '(');
        }
        text.append("p=1");
        for (int i = below(7); i > 0; i--) {
            text.append(oneIn(4) ? "&!q>2" : oneIn(4) ? "|(m<3" : ")");
        }
        return text.toString();
    }

    private static String longText() {
        StringBuilder text = new StringBuilder("side p=1");
        for (int i = below(13); i > 0; i--) {
            text.append(oneIn(2) ? ";side m=2" : ";hold q<3");
        }
        return text.substring(0, Math.min(100, text.length()));
    }

    private static void readTape(int i) {
        String text = i % 5 == 0 ? deepText() : i % 5 == 1 ? longText() : i % 5 == 2 ? tideText() : spoilt(tideText());
        LampVote lamp = new LampVote();
        Model model = new Model();
        for (int k = 0; k < text.length(); k++) {
            lamp.feed(text.charAt(k));
            model.feed(text.charAt(k));
        }
        int got = lamp.tide();
        int due = model.tide();
        if (got != due) {
            wrong++;
            System.out.println("tape " + text + ": tide() answered " + got + ", due is " + due);
        }
    }

    // ---- the second program

    private static class Voter {
        final int number, kind, v, home, oil;
        int wish;
        int[] row = new int[3];

        Voter(int number, int kind, int v, int home, int wish, int oil) {
            this.number = number;
            this.kind = kind;
            this.v = v;
            this.home = home;
            this.wish = wish;
            this.oil = oil;
        }

        int sets(Model m, int x) {
            m.bodies.add(1);
            return x + number;
        }

        int burns(Model m, int x) {
            m.bodies.add(2);
            return sets(m, x) - v;
        }

        int tells(Model m, int x) {
            m.bodies.add(3);
            return burns(m, x) * 2;
        }
    }

    private static class Upper extends Voter {
        Upper(int number, int kind, int v, int home, int wish, int oil) {
            super(number, kind, v, home, wish, oil);
        }

        @Override int sets(Model m, int x) {
            m.bodies.add(11);
            return super.sets(m, x * 3);
        }
    }

    private static class Early extends Voter {
        Early(int number, int kind, int v, int home, int wish, int oil) {
            super(number, kind, v, home, wish, oil);
        }

        @Override int burns(Model m, int x) {
            m.bodies.add(21);
            return -super.burns(m, x);
        }
    }

    private static class Crowd extends Voter {
        Crowd(int number, int kind, int v, int home, int wish, int oil) {
            super(number, kind, v, home, wish, oil);
        }

        @Override int tells(Model m, int x) {
            m.bodies.add(31);
            return super.tells(m, x) ^ 7;
        }
    }

    private static final class Served extends Upper {
        Served(int number, int kind, int v, int home, int wish, int oil) {
            super(number, kind, v, home, wish, oil);
        }

        @Override int tells(Model m, int x) {
            m.bodies.add(41);
            return super.tells(m, x - 1) + sets(m, 2);
        }
    }

    private static final class Friend extends Early {
        Friend(int number, int kind, int v, int home, int wish, int oil) {
            super(number, kind, v, home, wish, oil);
        }

        @Override int sets(Model m, int x) {
            m.bodies.add(51);
            return super.sets(m, x) ^ number;
        }
    }

    private static final class Told extends Crowd {
        Told(int number, int kind, int v, int home, int wish, int oil) {
            super(number, kind, v, home, wish, oil);
        }

        @Override int burns(Model m, int x) {
            m.bodies.add(61);
            return super.burns(m, x) + v;
        }
    }

    private static Voter made(int number, int kind, int v, int home, int wish, int oil) {
        switch (kind) {
            case 0: return new Voter(number, kind, v, home, wish, oil);
            case 1: return new Upper(number, kind, v, home, wish, oil);
            case 2: return new Early(number, kind, v, home, wish, oil);
            case 3: return new Crowd(number, kind, v, home, wish, oil);
            case 4: return new Served(number, kind, v, home, wish, oil);
            case 5: return new Friend(number, kind, v, home, wish, oil);
            default: return new Told(number, kind, v, home, wish, oil);
        }
    }

    private static final class Model {
        int n = 5;
        int[] next = {0, 0, 0, 0, 0, 0, 0};
        int[] side = {0, 0, 0, 0, 0, 0, 0};
        int[] ward = {0, 0, 0, 0, 0, 0, 0};
        int minute = 0;
        List<Voter> voters = new ArrayList<>();
        String tape = "";
        List<String> tides = new ArrayList<>();
        List<int[]> seen = new ArrayList<>();
        List<int[]> tales = new ArrayList<>();
        List<Integer> bodies = new ArrayList<>();
        Model kept = null;

        Model() {
            asAtFirst();
        }

        void asAtFirst() {
            for (int i = 0; i < 7; i++) {
                next[i] = Math.min(i + 1, n - 1);
                side[i] = -1;
                ward[i] = 0;
            }
        }

        /** All but the image and the trace of another one. */
        void become(Model m) {
            n = m.n;
            next = m.next.clone();
            side = m.side.clone();
            ward = m.ward.clone();
            minute = m.minute;
            voters = new ArrayList<>();
            for (Voter v : m.voters) {
                Voter same = made(v.number, v.kind, v.v, v.home, v.wish, v.oil);
                same.row = v.row.clone();
                voters.add(same);
            }
            tape = m.tape;
            tides = new ArrayList<>(m.tides);
            seen = new ArrayList<>(m.seen);
            tales = new ArrayList<>(m.tales);
        }

        boolean noPlace(int p) {
            return p < 0 || p >= n;
        }

        boolean noVoter(int v) {
            return v < 0 || v >= voters.size();
        }

        // -- tides: a text is split where the document's | and & stand outside all brackets

        static List<String> split(String text, char at) {
            List<String> parts = new ArrayList<>();
            int open = 0;
            int since = 0;
            for (int i = 0; i < text.length(); i++) {
                char c = text.charAt(i);
                open += c == '(' ? 1 : c == ')' ? -1 : 0;
                if (open < 0) {
                    return null;
                }
                if (c == at && open == 0) {
                    parts.add(text.substring(since, i));
                    since = i + 1;
                }
            }
            parts.add(text.substring(since));
            return open == 0 ? parts : null;
        }

        static final Pattern TEST = Pattern.compile("[pqmw][<=>](0|[1-9][0-9]?)");
        static final Pattern HEAD = Pattern.compile("(side|hold|(oil|weigh) (0|[1-9][0-9]?)) ");

        static boolean isEither(String text, int open) {
            List<String> parts = split(text, '|');
            return parts != null && parts.stream().allMatch(t -> isBoth(t, open));
        }

        static boolean isBoth(String text, int open) {
            List<String> parts = split(text, '&');
            return parts != null && parts.stream().allMatch(t -> isFactor(t, open));
        }

        static boolean isFactor(String text, int open) {
            if (text.startsWith("!")) {
                return open < 5 && isFactor(text.substring(1), open + 1);
            }
            if (text.startsWith("(") && text.endsWith(")")) {
                return open < 5 && isEither(text.substring(1, text.length() - 1), open + 1);
            }
            return TEST.matcher(text).matches();
        }

        static boolean isClause(String text) {
            Matcher head = HEAD.matcher(text);
            return head.lookingAt() && isEither(text.substring(head.end()), 0);
        }

        static boolean isTide(String text) {
            String[] clauses = text.split(";", -1);
            return clauses.length <= 10 && Arrays.stream(clauses).allMatch(Model::isClause);
        }

        static final List<String> ENDINGS = endings();

        static List<String> endings() {
            List<String> all = new ArrayList<>();
            for (String whole : List.of("side p=1", "hold p=1", "oil 1 p=1", "weigh 1 p=1")) {
                for (int i = 0; i <= whole.length(); i++) {
                    for (int k = 0; k <= 5; k++) {
                        String ending = whole.substring(i) + ")))))".substring(0, k);
                        if (!all.contains(ending)) {
                            all.add(ending);
                        }
                    }
                }
            }
            return all;
        }

        static boolean canGoOn(String text) {
            for (String ending : ENDINGS) {
                if (isTide(text + ending)) {
                    return true;
                }
            }
            return false;
        }

        /** Shorter texts that can go on are found by halves: what goes on does so at each length below. */
        static int fault(String text) {
            int good = 0;
            int bad = text.length() + 1;
            while (bad - good > 1) {
                int half = (good + bad) / 2;
                if (canGoOn(text.substring(0, half))) {
                    good = half;
                } else {
                    bad = half;
                }
            }
            return good;
        }

        boolean so(String text, int p, int at) {
            List<String> either = split(text, '|');
            if (either.size() > 1) {
                return either.stream().anyMatch(t -> so(t, p, at));
            }
            List<String> both = split(text, '&');
            if (both.size() > 1) {
                return both.stream().allMatch(t -> so(t, p, at));
            }
            if (text.startsWith("!")) {
                return !so(text.substring(1), p, at);
            }
            if (text.startsWith("(")) {
                return so(text.substring(1, text.length() - 1), p, at);
            }
            char of = text.charAt(0);
            int found = of == 'p' ? p : of == 'q' ? next[p] : of == 'm' ? at % 12 : ward[p];
            int number = Integer.parseInt(text.substring(2));
            char how = text.charAt(1);
            return how == '<' ? found < number : how == '=' ? found == number : found > number;
        }

        /** How many clauses of the word hold there then; with a number: their numbers together. */
        int held(String word, int p, int at) {
            int sum = 0;
            String newest = tides.isEmpty() ? "" : tides.get(tides.size() - 1);
            for (String clause : newest.split(";")) {
                String[] parts = clause.split(" ");
                if (parts[0].equals(word) && so(parts[parts.length - 1], p, at)) {
                    sum += parts.length == 3 ? Integer.parseInt(parts[1]) : 1;
                }
            }
            return sum;
        }

        int goal(int p, int at) {
            if (held("hold", p, at) > 0) {
                return p;
            }
            return side[p] >= 0 && held("side", p, at) > 0 ? side[p] : next[p];
        }

        int weight(int p, int at) {
            return 1 + held("weigh", p, at);
        }

        // -- nights

        int delay(int v) {
            Voter voter = voters.get(v);
            return voter instanceof Early ? 0 : voter.v % 3;
        }

        int upper(int home) {
            for (int p = 0; p < n; p++) {
                if (next[p] == home && p != home) {
                    return p;
                }
            }
            return home;
        }

        int setsAt(int v) {
            Voter voter = voters.get(v);
            if (voter instanceof Served && next[voter.home] == voter.home) {
                return voter.home;
            }
            if (voter instanceof Upper) {
                return upper(voter.home);
            }
            if (voter instanceof Told) {
                return voter.row[minute % 3];
            }
            if (voter instanceof Crowd) {
                int[] homes = new int[7];
                for (Voter other : voters) {
                    homes[other.home]++;
                }
                int most = Arrays.stream(homes).max().getAsInt();
                for (int p = 0; ; p++) {
                    if (homes[p] == most) {
                        return p;
                    }
                }
            }
            return voter instanceof Friend ? voters.get(voter.v % voters.size()).home : voter.home;
        }

        int burns(int v, int start) {
            return Math.min(12, voters.get(v).oil + held("oil", start, minute + delay(v)));
        }

        /** Where the lamp is 0 to 12 minutes from now, if it is set there. */
        int[] lampPlaces(int v, int start, int stick) {
            int[] places = new int[13];
            int p = start;
            int left = burns(v, start);
            for (int t = 0; t <= 12; t++) {
                places[t] = p;
                if (t >= delay(v) && left > 0) {
                    left--;
                    p = p == stick ? p : goal(p, minute + t);
                }
            }
            return places;
        }

        int lie(int v, int start, int stick) {
            return lampPlaces(v, start, stick)[12];
        }

        int worth(int v, int start, int stick) {
            boolean counts = voters.get(v) instanceof Told || delay(v) + burns(v, start) >= 12;
            return counts ? weight(lie(v, start, stick), minute + 12) : 0;
        }

        int[] starts() {
            int[] starts = new int[voters.size()];
            for (int v = 0; v < starts.length; v++) {
                starts[v] = setsAt(v);
            }
            return starts;
        }

        int[] wishes() {
            return voters.stream().mapToInt(v -> v.wish).toArray();
        }

        int[] worths(int[] starts, int stick) {
            int[] worths = new int[starts.length];
            for (int v = 0; v < starts.length; v++) {
                worths[v] = worth(v, starts[v], stick);
            }
            return worths;
        }

        static int votes(int[] worths, int[] wishes, int wish) {
            int sum = 0;
            for (int v = 0; v < wishes.length; v++) {
                sum += wishes[v] == wish ? worths[v] : 0;
            }
            return sum;
        }

        static int mayor(int[] worths, int[] wishes) {
            int zero = votes(worths, wishes, 0);
            int one = votes(worths, wishes, 1);
            return zero > one ? 0 : one > zero ? 1 : -5;
        }

        int more(int[] starts, int v) {
            int[] worths = worths(starts, -1);
            int wish = voters.get(v).wish;
            return votes(worths, wishes(), wish) - votes(worths, wishes(), 1 - wish);
        }

        static int[] turned(int[] wishes, int set) {
            int[] turned = wishes.clone();
            for (int v = 0; v < wishes.length; v++) {
                turned[v] ^= set >> v & 1;
            }
            return turned;
        }


        int best(int[] starts, int v) {
            int best = -1;
            int most = 0;
            for (int p = 0; p < n; p++) {
                starts[v] = p;
                int more = more(starts, v);
                if (best < 0 || more > most) {
                    best = p;
                    most = more;
                }
            }
            return best;
        }

        // -- the calls

        int feed(int sign) {
            if (sign < 0 || sign > 127) {
                return -2;
            }
            if (tape.length() == 100) {
                return -4;
            }
            tape += (char) sign;
            return tape.length();
        }

        int tide() {
            if (tides.size() == 5) {
                return -4;
            }
            String text = tape;
            tape = "";
            if (isTide(text)) {
                tides.add(text);
                return tides.size() - 1;
            }
            return -10 - fault(text);
        }

        int places(int many) {
            if (many < 2 || many > 7) {
                return -2;
            }
            if (!voters.isEmpty()) {
                return -3;
            }
            int before = n;
            n = many;
            asAtFirst();
            return before;
        }

        int place(int p, int what, int to) {
            if (noPlace(p) || what < 0 || what > 2) {
                return -1;
            }
            if (what == 0 && noPlace(to) || what == 1 && to != -1 && noPlace(to) || what == 2 && (to < 0 || to > 2)) {
                return -2;
            }
            int[] row = what == 0 ? next : what == 1 ? side : ward;
            int before = row[p];
            row[p] = to;
            return before;
        }

        int at(int p, int what) {
            if (noPlace(p) || what < 0 || what > 5) {
                return -1;
            }
            return new int[] {next[p], side[p], ward[p], held("hold", p, minute) > 0 ? 1 : 0, goal(p, minute),
                weight(p, minute)}[what];
        }

        int voter(int kind, int v, int home, int wish, int oil) {
            if (kind < 0 || kind > 6 || noPlace(home)) {
                return -1;
            }
            if (v < 0 || v > 9 || wish < 0 || wish > 1 || oil < 0 || oil > 12) {
                return -2;
            }
            if (voters.size() == 6) {
                return -4;
            }
            voters.add(made(voters.size(), kind, v, home, wish, oil));
            return voters.size() - 1;
        }

        int of(int v, int what) {
            if (noVoter(v) || what < 0 || what > 7) {
                return -1;
            }
            Voter voter = voters.get(v);
            return new int[] {voter.kind, voter.v, voter.home, voter.wish, voter.oil, setsAt(v), delay(v),
                burns(v, setsAt(v))}[what];
        }

        int wish(int v, int to) {
            if (noVoter(v)) {
                return -1;
            }
            if (to != 0 && to != 1) {
                return -2;
            }
            int before = voters.get(v).wish;
            voters.get(v).wish = to;
            return before;
        }

        int row(int v, int k, int p) {
            if (noVoter(v) || k < 0 || k > 2 || noPlace(p)) {
                return -1;
            }
            if (!(voters.get(v) instanceof Told)) {
                return -3;
            }
            int before = voters.get(v).row[k];
            voters.get(v).row[k] = p;
            return before;
        }

        int minutes(int more) {
            if (more < 0 || more > 60) {
                return -2;
            }
            if (minute + more > 9999) {
                return -3;
            }
            minute += more;
            return minute;
        }

        int vote(int what) {
            if (what < 0 || what > 2) {
                return -1;
            }
            int[] worths = worths(starts(), -1);
            return what == 2 ? mayor(worths, wishes()) : votes(worths, wishes(), what);
        }

        int lies(int v, int what) {
            if (noVoter(v) || what < 0 || what > 1) {
                return -1;
            }
            return what == 0 ? lie(v, setsAt(v), -1) : worth(v, setsAt(v), -1) > 0 ? 1 : 0;
        }

        int wardOf(int w) {
            if (w < 0 || w > 2) {
                return -1;
            }
            int[] starts = starts();
            int[] worths = worths(starts, -1);
            for (int v = 0; v < starts.length; v++) {
                if (ward[lie(v, starts[v], -1)] != w) {
                    worths[v] = 0;
                }
            }
            return mayor(worths, wishes());
        }

        int drifts(int p, int m) {
            if (noPlace(p)) {
                return -1;
            }
            if (m < 0 || m > 12) {
                return -2;
            }
            int where = p;
            for (int t = 0; t < m; t++) {
                where = goal(where, minute + t);
            }
            return where;
        }

        int from(int p, int m, int what) {
            if (noPlace(p) || what < 0 || what > 1) {
                return -1;
            }
            if (m < 0 || m > 12) {
                return -2;
            }
            int bits = 0;
            int least = -5;
            for (int s = n - 1; s >= 0; s--) {
                if (drifts(s, m) == p) {
                    bits += 1 << s;
                    least = s;
                }
            }
            return what == 0 ? bits : least;
        }

        int turns(int what) {
            if (what < 0 || what > 1) {
                return -1;
            }
            int[] worths = worths(starts(), -1);
            int mayor = mayor(worths, wishes());
            for (int many = 0; many <= voters.size(); many++) {
                for (int set = 0; set < 1 << voters.size(); set++) {
                    int then = mayor(worths, turned(wishes(), set));
                    if (Integer.bitCount(set) == many && (mayor == -5 ? then != -5 : then == 1 - mayor)) {
                        return what == 0 ? many : set;
                    }
                }
            }
            return -5;
        }

        long sways(int v, int part) {
            if (noVoter(v) || part < 0 || part > 1) {
                return Long.MIN_VALUE;
            }
            int[] worths = worths(starts(), -1);
            int all = 1 << voters.size();
            int sway = 0;
            for (int set = 0; set < all; set++) {
                int[] wishes = turned(new int[voters.size()], set);
                sway += mayor(worths, wishes) != mayor(worths, turned(wishes, 1 << v)) ? 1 : 0;
            }
            int common = all;
            while (all % common != 0 || sway % common != 0) {
                common--;
            }
            return part == 0 ? sway / common : all / common;
        }

        int stick(int wish) {
            if (wish < 0 || wish > 1) {
                return -2;
            }
            for (int p = 0; p < n; p++) {
                if (mayor(worths(starts(), p), wishes()) == wish) {
                    return p;
                }
            }
            return -5;
        }

        int set(int v, int what) {
            if (noVoter(v) || what < 0 || what > 1) {
                return -1001;
            }
            int[] starts = starts();
            int best = best(starts, v);
            starts[v] = best;
            return what == 0 ? best : more(starts, v);
        }

        int game(int one, int other, int what) {
            if (noVoter(one) || noVoter(other) || what < 0 || what > 1) {
                return -1001;
            }
            if (one == other) {
                return -1002;
            }
            int[] starts = starts();
            int[] had = new int[n];
            int best = 0;
            for (int p = 0; p < n; p++) {
                starts[one] = p;
                starts[other] = best(starts, other);
                had[p] = more(starts, one);
                best = had[p] > had[best] ? p : best;
            }
            return what == 0 ? best : had[best];
        }

        int see(int p, int lamps) {
            if (p == -1) {
                seen.clear();
                return 0;
            }
            if (noPlace(p)) {
                return -1;
            }
            if (lamps < 0 || lamps > 6) {
                return -2;
            }
            if (seen.size() == 6) {
                return -4;
            }
            seen.add(new int[] {p, lamps});
            return seen.size();
        }

        int[] lamps(int[] starts) {
            int[] lamps = new int[7];
            for (int v = 0; v < starts.length; v++) {
                lamps[lie(v, starts[v], -1)]++;
            }
            return lamps;
        }

        int fits(int v) {
            if (noVoter(v)) {
                return -1;
            }
            int bits = 0;
            int[] starts = starts();
            for (int p = 0; p < n; p++) {
                starts[v] = p;
                int[] lamps = lamps(starts);
                bits += seen.stream().allMatch(s -> lamps[s[0]] == s[1]) ? 1 << p : 0;
            }
            return bits;
        }

        int fair(int what) {
            if (what < 0 || what > 1) {
                return -1;
            }
            int[] lamps = lamps(starts());
            int best = -1;
            int least = 99;
            for (int way = 0; way < 1 << n; way++) {
                int zero = 0;
                int one = 0;
                for (int p = 0; p < n; p++) {
                    if ((way & 1 << p) != 0) {
                        one += lamps[p];
                    } else {
                        zero += lamps[p];
                    }
                }
                if ((way & 1) == 0 && Math.abs(zero - one) < least) {
                    best = way;
                    least = Math.abs(zero - one);
                }
            }
            return what == 0 ? best : least;
        }

        int tale(int v, int m, int p) {
            if (v == -1) {
                tales.clear();
                return 0;
            }
            if (noVoter(v) || noPlace(p)) {
                return -1;
            }
            if (m < 0 || m > 12) {
                return -2;
            }
            if (tales.size() == 8) {
                return -4;
            }
            tales.add(new int[] {v, m, p});
            return tales.size();
        }

        int looked() {
            for (int i = 0; i < tales.size(); i++) {
                int[] tale = tales.get(i);
                if (lampPlaces(tale[0], setsAt(tale[0]), -1)[tale[1]] != tale[2]) {
                    return i;
                }
            }
            return -5;
        }

        int act(int v, int act, int x) {
            bodies.clear();
            if (noVoter(v) || act < 0 || act > 2) {
                return 0;
            }
            Voter voter = voters.get(v);
            return act == 0 ? voter.sets(this, x) : act == 1 ? voter.burns(this, x) : voter.tells(this, x);
        }

        int trace(int i) {
            return i < 0 || i >= Math.min(20, bodies.size()) ? -1 : bodies.get(i);
        }

        int as(int v, int k) {
            if (noVoter(v) || k < 0 || k > 6) {
                return -1;
            }
            Class<?>[] kinds = {Voter.class, Upper.class, Early.class, Crowd.class, Served.class, Friend.class, Told.class};
            return kinds[k].isInstance(voters.get(v)) ? voters.get(v).v : -6;
        }

        int image() {
            kept = new Model();
            kept.become(this);
            return voters.size();
        }

        int undo() {
            if (kept == null) {
                return -3;
            }
            become(kept);
            return voters.size();
        }

        int count(int what) {
            if (what < 0 || what > 5) {
                return -1;
            }
            return new int[] {voters.size(), tides.size(), seen.size(), tales.size(), tape.length(), bodies.size()}[what];
        }
    }
}
