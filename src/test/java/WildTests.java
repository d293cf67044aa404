import java.lang.reflect.Method;
import java.lang.reflect.Modifier;
import java.util.ArrayList;
import java.util.List;

/**
 * Each call with all sorts of numbers, near and far, in empty, middling and full states: none of
 * them may throw, and the same calls answer the same on another object.
 */
public final class WildTests {
    private static final int[] WILD = {
        Integer.MIN_VALUE, Integer.MIN_VALUE + 1, -13, -2, -1, 0, 1, 2, 5, 6, 7, 12, 13, 61, 128, Integer.MAX_VALUE
    };
    private static final int[] FEWER = {Integer.MIN_VALUE, -1, 0, 6, 13, Integer.MAX_VALUE};
    private static int calls = 0;
    private static int wrong = 0;

    public static void main(String[] args) throws ReflectiveOperationException {
        for (int state = 0; state < 4; state++) {
            for (Method method : LampVote.class.getDeclaredMethods()) {
                if (Modifier.isPublic(method.getModifiers())) {
                    callAll(state, method);
                }
            }
        }
        beyond();
        System.out.println(wrong == 0 ? "WildTests: " + calls + " calls, none of which threw" : wrong + " faults");
        if (wrong != 0) {
            System.exit(1);
        }
    }

    private static LampVote made(int state) {
        LampVote x = new LampVote();
        if (state == 0) {
            return x;
        }
        x.places(state == 1 ? 2 : 7);
        x.place(1, 0, 0);
        x.place(0, 1, 1);
        type(x, "weigh 99 m>2;oil 12 p=1;side !q=1;hold (w=1&m=4)");
        x.tide();
        for (int i = 0; i < 2 * state; i++) {
            x.voter(6 - i, 9 - i, i % 2, i % 2, 12 - 3 * i);
        }
        x.row(0, 0, 1);
        if (state == 3) {
            for (int i = 0; i < 8; i++) {
                x.see(i % 7, i);
                x.tale(i % 6, i, i % 7);
            }
            for (int i = 0; i < 166; i++) {
                x.minutes(60);
            }
            x.minutes(39);
            type(x, "hold !(".repeat(20));
        }
        x.image();
        return x;
    }

    private static void type(LampVote x, String text) {
        for (int i = 0; i < text.length(); i++) {
            x.feed(text.charAt(i));
        }
    }

    /** All ways to fill the call's arguments; now and then on a new object, for the last may be full. */
    private static void callAll(int state, Method method) throws ReflectiveOperationException {
        int[] some = method.getParameterCount() > 3 ? FEWER : WILD;
        List<Object[]> ways = ways(method.getParameterCount(), some);
        LampVote x = made(state);
        LampVote y = made(state);
        for (int i = 0; i < ways.size(); i++) {
            if (i % 30 == 29) {
                x = made(state);
                y = made(state);
            }
            Object one = method.invoke(x, ways.get(i));
            Object other = method.invoke(y, ways.get(i));
            calls++;
            if (!one.equals(other)) {
                wrong++;
                System.out.println(method.getName() + " answered " + one + " and " + other);
            }
        }
    }

    private static List<Object[]> ways(int arguments, int[] some) {
        List<Object[]> ways = new ArrayList<>();
        int many = 1;
        for (int a = 0; a < arguments; a++) {
            many *= some.length;
        }
        for (int way = 0; way < many; way++) {
            Object[] told = new Object[arguments];
            int rest = way;
            for (int a = 0; a < arguments; a++) {
                told[a] = some[rest % some.length];
                rest /= some.length;
            }
            ways.add(told);
        }
        return ways;
    }

    /** What calls behind the 512th answer is free, but none may throw. */
    private static void beyond() {
        LampVote x = made(3);
        for (int i = 0; i < 5000; i++) {
            x.feed(i % 128);
            x.act(i % 6, 2, i);
            x.tide();
            x.see(i % 7, 1);
            x.tale(i % 6, 1, 1);
            x.minutes(1);
            x.voter(0, 0, 0, 0, 0);
            if (i % 50 == 0) {
                x.undo();
            }
            x.vote(2);
            calls++;
        }
    }
}
