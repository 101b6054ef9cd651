import java.util.ArrayList;
import java.util.Arrays;
import java.util.List;
import java.util.NoSuchElementException;
import java.util.Objects;

/** Compares answers with those that are due, and looks whether a call that throws changes anything. */
public final class Check {
    /** A call whose answer, or exception, is looked at. */
    public interface Call {
        Object answer();
    }

    public static final Class<IllegalArgumentException> ARGUMENT = IllegalArgumentException.class;
    public static final Class<IllegalStateException> STATE = IllegalStateException.class;
    public static final Class<IndexOutOfBoundsException> INDEX = IndexOutOfBoundsException.class;
    public static final Class<NoSuchElementException> NOTHING = NoSuchElementException.class;
    public static final Class<UnsupportedOperationException> UNLIKE = UnsupportedOperationException.class;

    private static int wrong = 0;

    private Check() {
    }

    public static void due(String what, Object got, Object want) {
        if (!Objects.equals(got, want)) {
            wrong++;
            System.out.println(what + ": answered " + got + ", due is " + want);
        }
    }

    /**
     * The very class is due, as the machine's own exceptions are of classes below it. Afterwards an
     * object on which the call was made has to tell the same as one on which it was not.
     */
    public static void thrown(Watched x, String what, Class<? extends RuntimeException> want, Call call) {
        List<Watched.Step<?>> answered = x.answered();
        int calls = x.calls();
        due(what, answerOf(call), want);
        if (x.calls() != calls + 1) {
            throw new AssertionError(what + ": the test has to make one call of the object that it looks at");
        }
        due(what + ", a look afterwards", lookAfter(answered, x.last()), Look.after(answered));
    }

    private static String lookAfter(List<Watched.Step<?>> answered, Watched.Step<?> refused) {
        List<Watched.Step<?>> steps = new ArrayList<>(answered);
        steps.add(counter -> answerOf(() -> refused.on(counter)));
        return Look.after(steps);
    }

    public static void end() {
        System.out.println(wrong == 0 ? "all answers are as due" : wrong + " answers are not as due");
        if (wrong != 0) {
            System.exit(1);
        }
    }

    public static Object answerOf(Call call) {
        try {
            return call.answer();
        } catch (RuntimeException e) {
            return e.getClass();
        }
    }

    /** An object with as many variables as are told. */
    public static Watched with(int variables) {
        Watched x = new Watched();
        for (int i = 0; i < variables; i++) {
            x.addVariable();
        }
        return x;
    }

    /** Numbers not from the least to the greatest: the nearest, far ones, and some that are if they are cut short. */
    public static int[] outside(int least, int greatest) {
        int[] all = {
            least - 1, greatest + 1, least - 2, greatest + 2, least - 10, greatest + 10, least + 32, greatest + 32,
            least + 64, least + 256, least + 65536, 1 << 30, Integer.MAX_VALUE, Integer.MIN_VALUE,
            Integer.MIN_VALUE + least, -greatest - 1,
        };
        int count = 0;
        for (int number : all) {
            if (number < least || number > greatest) {
                all[count] = number;
                count++;
            }
        }
        return Arrays.copyOf(all, count);
    }

    /** Sets with one or more variables that are not there, some with ones that are. */
    public static int[] setsOutside(int variables) {
        int next = 1 << variables;
        return new int[] {
            next, next | 1, 2 * next - 1, 2 * next, 65536, 65536 | 1, 1 << 30, Integer.MAX_VALUE, Integer.MIN_VALUE,
            Integer.MIN_VALUE | 1, -1, -2, -next,
        };
    }
}
