import java.util.Objects;

/** Compares answers with those that are due, and looks whether a call that throws changes anything. */
public final class Check {
    /** A call whose answer, or exception, is looked at. */
    public interface Call {
        Object answer();
    }

    private static int wrong = 0;

    private Check() {
    }

    public static void due(String what, Object got, Object want) {
        if (!Objects.equals(got, want)) {
            wrong++;
            System.out.println(what + ": answered " + got + ", due is " + want);
        }
    }

    /** The very class is due, as the machine's own exceptions are of classes below it. */
    public static void thrown(Countfall x, String what, Class<? extends RuntimeException> want, Call call) {
        String before = look(x);
        Object got;
        try {
            got = call.answer();
        } catch (RuntimeException e) {
            got = e.getClass();
        }
        due(what, got, want);
        due(what + ", a look afterwards", look(x), before);
    }

    public static void end() {
        System.out.println(wrong == 0 ? "all answers are as due" : wrong + " answers are not as due");
        if (wrong != 0) {
            System.exit(1);
        }
    }

    public static Object answerOf(Call call) {
        try {
            return call.answer();
        } catch (RuntimeException e) {
            return e.getClass();
        }
    }

    /** All that an object tells without being changed. */
    public static String look(Countfall x) {
        StringBuilder seen = new StringBuilder();
        seen.append(x.models()).append(' ').append(x.modelsByAll()).append(' ').append(x.weight());
        seen.append(' ').append(x.nodes()).append(' ').append(x.ways()).append(' ').append(x.parts());
        for (int i = 0; i < 21; i++) {
            int number = i;
            seen.append("\n").append(i).append(' ').append(answerOf(() -> x.kind(number)));
            seen.append(' ').append(answerOf(() -> x.best(number)));
            for (int a = 0; a < 1024; a += 1 + a / 8) {
                int assignment = a;
                seen.append(answerOf(() -> x.holds(number, assignment)) == Boolean.TRUE ? 1 : 0);
            }
        }
        for (int i = 0; i < 11; i++) {
            int variable = i;
            seen.append("\n").append(i).append(' ').append(answerOf(() -> x.orderAt(variable)));
            seen.append(' ').append(answerOf(() -> x.implied(variable)));
            seen.append(' ').append(answerOf(() -> x.partOf(variable)));
            seen.append(' ').append(answerOf(() -> x.weightOf(0)));
            seen.append(' ').append(answerOf(() -> x.weightOf(1 << variable)));
        }
        for (int i = 0; i < 4; i++) {
            int slot = i;
            seen.append("\n").append(i).append(' ').append(answerOf(() -> x.modelsOf(slot)));
            seen.append(' ').append(answerOf(() -> x.nodesOf(slot)));
            for (int j = 0; j < 4; j++) {
                int other = j;
                seen.append(' ').append(answerOf(() -> x.isWithin(slot, other)));
            }
        }
        return seen.toString();
    }

    /** An object with as many variables as are told. */
    public static Countfall with(int variables) {
        Countfall x = new Countfall();
        for (int i = 0; i < variables; i++) {
            x.addVariable();
        }
        return x;
    }
}
