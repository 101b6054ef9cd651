import java.lang.reflect.InvocationTargetException;
import java.lang.reflect.Method;
import java.util.ArrayList;
import java.util.Arrays;
import java.util.Comparator;
import java.util.List;
import java.util.Random;
import java.util.Set;

/**
 * Runs of as many calls as an object is promised for, drawn from written seeds, on a Countfall and on the
 * Reference: each answer or exception must be the same.
 */
public final class RandomRunsTest {
    private static final int[] WRONG = {-1, -2, Integer.MIN_VALUE, Integer.MAX_VALUE, 1024, 1 << 20, 21, 10, 11};
    private static final String HOWS = "aoxaoxaoxb";
    private static final Set<String> OF_PARTS = Set.of("addVariable", "addClause", "addParity", "addBound", "drop",
            "setEvidence", "models", "modelsByAll", "modelsOfPart", "partOf");
    private static final Set<String> OF_SLOTS = Set.of("addVariable", "addClause", "addParity", "drop", "setEvidence",
            "keep", "join", "fix", "free", "nodesOf", "modelsOf", "areSame", "isWithin", "exchange");

    private final Random random;
    private final Countfall x = new Countfall();
    private final Reference reference = new Reference();
    private final List<String> calls = new ArrayList<>();
    private int variables = 0;

    private RandomRunsTest(int seed) {
        random = new Random(seed);
    }

    public static void main(String[] args) throws ReflectiveOperationException {
        Method[] methods = Countfall.class.getDeclaredMethods();
        Method[] face = Arrays.stream(methods)
                .filter(m -> java.lang.reflect.Modifier.isPublic(m.getModifiers()))
                .sorted(Comparator.comparing(Method::getName)).toArray(Method[]::new);
        Check.due("the face's methods", face.length, 39);
        for (int seed = 0; seed < 150; seed++) {
            new RandomRunsTest(seed).run(seed, face);
        }
        for (int seed = 150; seed < 210; seed++) {
            new RandomRunsTest(seed).run(seed, only(face, OF_PARTS));
            new RandomRunsTest(seed).run(seed, only(face, OF_SLOTS));
        }
        Check.end();
    }

    private static Method[] only(Method[] face, Set<String> names) {
        return Arrays.stream(face).filter(m -> names.contains(m.getName())).toArray(Method[]::new);
    }

    private void run(int seed, Method[] face) throws ReflectiveOperationException {
        int most = seed % 11;
        while (calls.size() < Watched.MOST_CALLS) {
            int i = calls.size();
            Method method = face[random.nextInt(face.length)];
            String name = method.getName();
            if (i < 12 && i < most && random.nextInt(8) > 0) {
                method = Countfall.class.getMethod("addVariable");
            } else if (name.equals("addVariable") && variables >= most && random.nextInt(20) > 0) {
                continue;
            } else if (name.equals("drop") && random.nextInt(3) > 0) {
                continue;
            }
            Object[] arguments = arguments(method);
            calls.add(method.getName() + Arrays.toString(arguments));
            Object got = call(method, x, arguments);
            Method same = Reference.class.getMethod(method.getName(), method.getParameterTypes());
            Object want = call(same, reference, arguments);
            if (method.getName().equals("addVariable") && want instanceof Integer) {
                variables++;
            }
            Check.due("seed " + seed + ", call " + calls.size() + ", " + calls.get(calls.size() - 1), got, want);
            if (!got.equals(want)) {
                System.out.println(calls);
                return;
            }
        }
    }

    private static Object call(Method method, Object on, Object[] arguments) throws IllegalAccessException {
        try {
            return method.invoke(on, arguments);
        } catch (InvocationTargetException e) {
            return e.getCause().getClass();
        }
    }

    private Object[] arguments(Method method) {
        Class<?>[] types = method.getParameterTypes();
        Object[] arguments = new Object[types.length];
        for (int i = 0; i < types.length; i++) {
            if (types[i] == char.class) {
                arguments[i] = HOWS.charAt(random.nextInt(HOWS.length()));
            } else if (types[i] == long.class) {
                arguments[i] = luck();
            } else {
                arguments[i] = random.nextInt(25) == 0 ? WRONG[random.nextInt(WRONG.length)]
                        : fitting(method.getName(), i);
            }
        }
        return arguments;
    }

    private Object luck() {
        long all = reference.weight();
        return switch (random.nextInt(8)) {
            case 0 -> all;
            case 1 -> -1L;
            case 2 -> Long.MAX_VALUE;
            case 3 -> all - 1;
            default -> all == 0 ? 0L : Math.floorMod(random.nextLong(), all);
        };
    }

    private int fitting(String name, int place) {
        int set = random.nextInt(1 << variables);
        return switch (name) {
            case "setWeights" -> place == 0 ? variable() : random.nextInt(10);
            case "addClause" -> set & random.nextInt(1 << variables);
            case "addParity" -> place == 0 ? set : random.nextInt(2);
            case "addBound" -> place == 0 ? set : place == 1 ? random.nextInt(3) : 1 + random.nextInt(10);
            case "drop", "kind" -> random.nextInt(20);
            case "holds" -> place == 0 ? random.nextInt(20) : set;
            case "setEvidence" -> place == 0 ? variable() : Math.max(-1, random.nextInt(5) - 3);
            case "weightWith" -> place == 0 ? variable() : random.nextInt(2);
            case "projected", "weightOf" -> set;
            case "best" -> random.nextInt(21);
            case "keep", "join", "nodesOf", "modelsOf", "areSame", "isWithin" -> random.nextInt(4);
            case "fix" -> place == 0 ? random.nextInt(4) : place == 1 ? variable() : random.nextInt(2);
            case "free" -> place == 0 ? random.nextInt(4) : variable();
            default -> variable();
        };
    }

    private int variable() {
        return random.nextInt(variables + (random.nextInt(10) == 0 || variables == 0 ? 1 : 0));
    }
}
