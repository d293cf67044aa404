import java.util.function.IntPredicate;
import java.util.function.IntUnaryOperator;

/**
 * The numbers that the calls take. For each: the least and the greatest one and all between are
 * taken, the one below, the one above and those far off are refused; with as many places and
 * voters as there can be, and with none.
 */
public final class BoundsTests {
    private static final int NONE = -1, BAD = -2, STATE = -3, FULL = -4;
    private static final int[] FAR_OFF = {
        Integer.MIN_VALUE, Integer.MIN_VALUE + 1, -65536, -257, -256, -129, -128, -127, -100, -2, -1,
        0, 7, 8, 13, 61, 100, 101, 127, 128, 255, 256, 257, 65535, 65536, 65537, Integer.MAX_VALUE - 1, Integer.MAX_VALUE
    };
    private static int wrong = 0;

    public static void main(String[] args) {
        feed();
        placesAndVoters();
        minutes();
        asked();
        told();
        acts();
        byPlaces();
        byVoters();
        constants();
        System.out.println(wrong == 0 ? "BoundsTests: all answers are as due" : wrong + " answers are not as due");
        if (wrong != 0) {
            System.exit(1);
        }
    }

    private static void due(String sentence, long want, long got) {
        if (got != want) {
            wrong++;
            System.out.println(sentence + ": answered " + got + ", due is " + want);
        }
    }

    /** A call with n on an object made for it. */
    private interface Call {
        long answer(int n);
    }

    private static void bounds(String sentence, int least, int most, long refusal, Call call, IntUnaryOperator taken) {
        IntPredicate within = n -> least <= n && n <= most;
        for (int n = least - 1; n <= most + 1; n++) {
            due(sentence + ", with " + n, within.test(n) ? taken.applyAsInt(n) : refusal, call.answer(n));
        }
        for (int n : FAR_OFF) {
            due(sentence + ", with " + n, within.test(n) ? taken.applyAsInt(n) : refusal, call.answer(n));
        }
    }

    private static LampVote fresh() {
        return new LampVote();
    }

    private static LampVote with(int places) {
        LampVote x = new LampVote();
        x.places(places);
        return x;
    }

    private static LampVote livedAt(int places) {
        LampVote x = with(places);
        x.voter(6, 0, 0, 0, 0);
        return x;
    }

    /** Told ones at place 0 of five, dark at once: number i has v i and wishes i modulo 2. */
    private static LampVote people(int many) {
        LampVote x = new LampVote();
        for (int i = 0; i < many; i++) {
            x.voter(6, i, 0, i % 2, 0);
        }
        return x;
    }

    private static void feed() {
        bounds("feed: a sign (0 .. 127); BAD", 0, 127, BAD, n -> fresh().feed(n), n -> 1);
    }

    private static void placesAndVoters() {
        bounds("places: n (2 .. 7); BAD", 2, 7, BAD, n -> fresh().places(n), n -> 5);
        bounds("place: a PLACE; NONE", 0, 4, NONE, n -> fresh().place(n, 2, 1), n -> 0);
        bounds("place: what 0, 1, 2; NONE", 0, 2, NONE, n -> {
            LampVote x = fresh();
            x.place(0, 1, 3);
            return x.place(0, n, 1);
        }, n -> new int[] {1, 3, 0}[n]);
        bounds("place: NEXT becomes a PLACE; BAD", 0, 4, BAD, n -> fresh().place(0, 0, n), n -> 1);
        bounds("place: SIDE becomes a PLACE or -1; BAD", -1, 4, BAD, n -> {
            LampVote x = fresh();
            x.place(0, 1, 2);
            return x.place(0, 1, n);
        }, n -> 2);
        bounds("place: WARD becomes 0 .. 2; BAD", 0, 2, BAD, n -> {
            LampVote x = fresh();
            x.place(0, 2, 1);
            return x.place(0, 2, n);
        }, n -> 1);
        bounds("at: a PLACE; NONE", 0, 4, NONE, n -> fresh().at(n, 5), n -> 1);
        bounds("at: what 0 .. 5; NONE", 0, 5, NONE, n -> {
            LampVote x = fresh();
            x.place(1, 1, 4);
            return x.at(1, n);
        }, n -> new int[] {2, 4, 0, 0, 2, 1}[n]);
        bounds("voter: a KIND (0 .. 6); NONE", 0, 6, NONE, n -> fresh().voter(n, 0, 0, 0, 0), n -> 0);
        bounds("voter: a number v (0 .. 9); BAD", 0, 9, BAD, n -> fresh().voter(0, n, 0, 0, 0), n -> 0);
        bounds("voter: a HOME (a PLACE); NONE", 0, 4, NONE, n -> fresh().voter(0, 0, n, 0, 0), n -> 0);
        bounds("voter: a WISH (0 or 1); BAD", 0, 1, BAD, n -> fresh().voter(0, 0, 0, n, 0), n -> 0);
        bounds("voter: OIL (0 .. 12); BAD", 0, 12, BAD, n -> fresh().voter(0, 0, 0, 0, n), n -> 0);
        kept();
        bounds("of: what 0 .. 7; NONE", 0, 7, NONE, n -> {
            LampVote x = fresh();
            x.voter(6, 5, 3, 1, 9);
            return x.of(0, n);
        }, n -> new int[] {6, 5, 3, 1, 9, 0, 2, 9}[n]);
        bounds("wish: n 0 or 1; BAD", 0, 1, BAD, n -> people(2).wish(1, n), n -> 1);
        bounds("row: k 0, 1, 2; NONE", 0, 2, NONE, n -> {
            LampVote x = people(1);
            for (int k = 0; k < 3; k++) {
                x.row(0, k, k + 2);
            }
            return x.row(0, n, 0);
        }, n -> n + 2);
    }

    private static void kept() {
        for (int kind = 0; kind <= 6; kind++) {
            LampVote x = fresh();
            x.voter(kind, 0, 0, 0, 0);
            due("voter: each KIND is kept", kind, x.of(0, 0));
        }
        for (int v = 0; v <= 9; v++) {
            LampVote x = fresh();
            x.voter(0, v, 0, 0, 0);
            due("voter: each v is kept", v, x.of(0, 1));
        }
        for (int oil = 0; oil <= 12; oil++) {
            LampVote x = fresh();
            x.voter(0, 0, 0, oil % 2, oil);
            due("voter: each OIL is kept", oil, x.of(0, 4));
            due("voter: each WISH is kept", oil % 2, x.of(0, 3));
        }
    }

    private static LampVote late() {
        LampVote x = fresh();
        for (int i = 0; i < 166; i++) {
            x.minutes(60);
        }
        x.minutes(10);
        return x;
    }

    private static void minutes() {
        bounds("minutes: n (0 .. 60); BAD", 0, 60, BAD, n -> fresh().minutes(n), n -> n);
        LampVote at9970 = late();
        due("minutes: 9970 is reached", 9970, at9970.minutes(0));
        bounds("minutes: n (0 .. 60), ahead of above 9999; BAD", 0, 60, BAD, n -> {
            LampVote x = late();
            return x.minutes(n);
        }, n -> n <= 29 ? 9970 + n : STATE);
    }

    private static void asked() {
        bounds("vote: what 0, 1, 2; NONE", 0, 2, NONE, n -> people(3).vote(n), n -> new int[] {2, 1, 0}[n]);
        bounds("lies: what 0, 1; NONE", 0, 1, NONE, n -> people(1).lies(0, n), n -> n);
        bounds("ward: ward (0 .. 2); NONE", 0, 2, NONE, n -> {
            LampVote x = people(2);
            x.voter(6, 0, 0, 1, 1);
            x.voter(6, 0, 0, 0, 2);
            x.voter(6, 0, 0, 0, 2);
            x.place(1, 2, 1);
            x.place(2, 2, 2);
            x.wish(0, 1);
            return x.ward(n);
        }, n -> new int[] {1, 1, 0}[n]);
        bounds("drifts: m (0 .. 12); BAD", 0, 12, BAD, n -> {
            LampVote x = with(7);
            x.place(6, 0, 0);
            return x.drifts(0, n);
        }, n -> n % 7);
        for (int what = 0; what < 2; what++) {
            int asked = what;
            bounds("from: m (0 .. 12); BAD", 0, 12, BAD, n -> {
                LampVote x = with(7);
                x.place(6, 0, 0);
                return x.from(0, n, asked);
            }, n -> asked == 0 ? 1 << (14 - n) % 7 : (14 - n) % 7);
        }
        bounds("from: what 0, 1; NONE", 0, 1, NONE, n -> fresh().from(3, 1, n), n -> new int[] {4, 2}[n]);
        bounds("turns: what 0, 1; NONE", 0, 1, NONE, n -> people(5).turns(n), n -> new int[] {1, 1}[n]);
        bounds("sways: part 0, 1; NO", 0, 1, LampVote.NO, n -> people(5).sways(4, n), n -> new int[] {3, 8}[n]);
        bounds("stick: wish 0, 1; BAD", 0, 1, BAD, n -> people(1).stick(n), n -> new int[] {0, -5}[n]);
        bounds("set: what 0, 1; -1001", 0, 1, -1001, n -> people(4).set(0, n), n -> 0);
        bounds("game: what 0, 1; -1001", 0, 1, -1001, n -> people(3).game(0, 2, n), n -> n);
        bounds("fair: what 0, 1; NONE", 0, 1, NONE, n -> people(3).fair(n), n -> new int[] {0, 3}[n]);
        bounds("count: what 0 .. 5; NONE", 0, 5, NONE, n -> {
            LampVote x = people(4);
            x.see(0, 0);
            x.tale(0, 0, 0);
            x.tale(0, 0, 0);
            x.feed('s');
            x.act(0, 2, 0);
            return x.count(n);
        }, n -> new int[] {4, 0, 1, 2, 1, 5}[n]);
    }

    private static void told() {
        bounds("see: lamps (0 .. 6); BAD", 0, 6, BAD, n -> fresh().see(4, n), n -> 1);
        bounds("see: a PLACE, or -1; NONE", -1, 4, NONE, n -> fresh().see(n, 0), n -> n < 0 ? 0 : 1);
        bounds("see: place -1, whatever the other is", Integer.MIN_VALUE + 1, Integer.MIN_VALUE + 1, 0,
                n -> fresh().see(-1, n), n -> 0);
        bounds("tale: m (0 .. 12); BAD", 0, 12, BAD, n -> people(1).tale(0, n, 0), n -> 1);
        bounds("tale: a PLACE; NONE", 0, 4, NONE, n -> people(1).tale(0, 0, n), n -> 1);
        bounds("tale: voter -1, whatever the others are", 0, 0, 0, n -> people(1).tale(-1, n, n), n -> 0);
    }

    private static void acts() {
        bounds("act: 0, 1, 2; 0 and no TRACE", 0, 2, 0, n -> {
            LampVote x = people(2);
            x.act(0, 2, 9);
            int answer = x.act(1, n, 9);
            due("act: no TRACE by " + n, n < 0 || n > 2 ? 0 : new int[] {1, 3, 5}[n], x.count(5));
            return answer;
        }, n -> new int[] {10, 10, 20 ^ 7}[n]);
        bounds("trace: i; NONE", 0, 4, NONE, n -> {
            LampVote x = people(2);
            x.act(1, 2, 9);
            return x.trace(n);
        }, n -> new int[] {31, 3, 61, 2, 1}[n]);
        bounds("as: a KIND k (0 .. 6); NONE", 0, 6, NONE, n -> {
            LampVote x = fresh();
            x.voter(6, 9, 0, 0, 0);
            return x.as(0, n);
        }, n -> n == 0 || n == 3 || n == 6 ? 9 : -6);
    }

    /** PLACES 0 .. n less 1, for each n: every call that takes one. */
    private static void byPlaces() {
        for (int many = 2; many <= 7; many++) {
            int n = many;
            String there = "PLACES 0 .. n less 1 of " + n + ": ";
            bounds(there + "place", 0, n - 1, NONE, p -> with(n).place(p, 2, 0), p -> 0);
            bounds(there + "place, NEXT", 0, n - 1, BAD, p -> with(n).place(0, 0, p), p -> 1);
            bounds(there + "place, SIDE", -1, n - 1, BAD, p -> with(n).place(0, 1, p), p -> -1);
            bounds(there + "at", 0, n - 1, NONE, p -> with(n).at(p, 0), p -> Math.min(p + 1, n - 1));
            bounds(there + "voter", 0, n - 1, NONE, p -> with(n).voter(0, 0, p, 0, 0), p -> 0);
            bounds(there + "row", 0, n - 1, NONE, p -> livedAt(n).row(0, 0, p), p -> 0);
            bounds(there + "drifts", 0, n - 1, NONE, p -> with(n).drifts(p, 12), p -> p + 12 < n ? p + 12 : n - 1);
            bounds(there + "from", 0, n - 1, NONE, p -> with(n).from(p, 0, 0), p -> 1 << p);
            bounds(there + "see", -1, n - 1, NONE, p -> with(n).see(p, 0), p -> p < 0 ? 0 : 1);
            bounds(there + "tale", 0, n - 1, NONE, p -> livedAt(n).tale(0, 0, p), p -> 1);
        }
    }

    /** VOTERS 0 on, for each many of them: every call that takes one. */
    private static void byVoters() {
        int[] above = {1, 1, 1, 3, 3, 5};
        int[] below = {1, 1, 2, 4, 8, 8};
        for (int some = 0; some <= 6; some++) {
            int many = some;
            int last = many - 1;
            String there = "VOTERS 0 .. " + last + ": ";
            bounds(there + "of", 0, last, NONE, i -> people(many).of(i, 1), i -> i);
            bounds(there + "wish", 0, last, NONE, i -> people(many).wish(i, 0), i -> i % 2);
            bounds(there + "row", 0, last, NONE, i -> people(many).row(i, 0, 1), i -> 0);
            bounds(there + "lies", 0, last, NONE, i -> people(many).lies(i, 1), i -> 1);
            bounds(there + "sways", 0, last, LampVote.NO, i -> people(many).sways(i, 0), i -> above[last]);
            bounds(there + "sways", 0, last, LampVote.NO, i -> people(many).sways(i, 1), i -> below[last]);
            bounds(there + "set", 0, last, -1001, i -> people(many).set(i, 0), i -> 0);
            bounds(there + "set", 0, last, -1001, i -> people(many).set(i, 1), i -> i % 2 == 0 ? many % 2 : -(many % 2));
            bounds(there + "game, the first", 0, last, -1001, i -> people(many).game(i, 0, 0), i -> i == 0 ? -1002 : 0);
            bounds(there + "game, the second", 0, last, -1001, i -> people(many).game(0, i, 1),
                    i -> i == 0 ? -1002 : many % 2);
            bounds(there + "fits", 0, last, NONE, i -> people(many).fits(i), i -> 31);
            bounds(there + "tale", -1, last, NONE, i -> people(many).tale(i, 0, 0), i -> i < 0 ? 0 : 1);
            bounds(there + "act", 0, last, 0, i -> people(many).act(i, 0, 100), i -> 100 + i);
            bounds(there + "as", 0, last, NONE, i -> people(many).as(i, 6), i -> i);
            due(there + "count", many, people(many).count(0));
            due(there + "image", many, people(many).image());
            due(there + "voter, FULL", many < 6 ? many : FULL, people(many).voter(0, 0, 0, 0, 0));
        }
    }

    private static void constants() {
        due("NONE", -1, LampVote.NONE);
        due("BAD", -2, LampVote.BAD);
        due("STATE", -3, LampVote.STATE);
        due("FULL", -4, LampVote.FULL);
        due("NO", Long.MIN_VALUE, LampVote.NO);
    }
}
