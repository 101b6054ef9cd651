import java.lang.reflect.Constructor;
import java.lang.reflect.Method;
import java.lang.reflect.Modifier;
import java.util.Arrays;
import java.util.Set;
import java.util.TreeSet;

/** The class shows just the document's face. */
public final class FaceTest {
    private static final String[] FACE = {
        "int addVariable() IllegalStateException",
        "int setWeights(int int int) IndexOutOfBoundsException IllegalArgumentException",
        "int addClause(int int) IllegalArgumentException IllegalStateException",
        "int addParity(int int) IllegalArgumentException IllegalStateException",
        "int addBound(int int int) IllegalArgumentException IllegalStateException",
        "int drop(int) IndexOutOfBoundsException IllegalStateException",
        "char kind(int) IndexOutOfBoundsException",
        "int setEvidence(int int) IndexOutOfBoundsException IllegalArgumentException",
        "boolean holds(int int) IndexOutOfBoundsException IllegalArgumentException",
        "long models()",
        "long modelsByAll()",
        "long weight()",
        "long weightWith(int int) IndexOutOfBoundsException IllegalArgumentException",
        "long chanceTop(int) IndexOutOfBoundsException NoSuchElementException",
        "long chanceBottom(int) IndexOutOfBoundsException NoSuchElementException",
        "long projected(int) IllegalArgumentException",
        "char implied(int) IndexOutOfBoundsException",
        "int parts()",
        "int partOf(int) IndexOutOfBoundsException NoSuchElementException",
        "long modelsOfPart(int) IndexOutOfBoundsException NoSuchElementException",
        "int best(int) IllegalArgumentException NoSuchElementException",
        "long weightOf(int) IllegalArgumentException",
        "int lucky(long) IllegalArgumentException",
        "int first() NoSuchElementException",
        "int nodes()",
        "int nodesFor(int) IndexOutOfBoundsException",
        "long ways()",
        "int exchange(int int) IndexOutOfBoundsException",
        "int orderAt(int) IndexOutOfBoundsException",
        "int keep(int) IllegalArgumentException",
        "int join(int int char int) IllegalArgumentException NoSuchElementException UnsupportedOperationException",
        "int fix(int int int) IllegalArgumentException IndexOutOfBoundsException NoSuchElementException"
                + " UnsupportedOperationException",
        "int free(int int) IllegalArgumentException IndexOutOfBoundsException NoSuchElementException"
                + " UnsupportedOperationException",
        "int nodesOf(int) IllegalArgumentException NoSuchElementException UnsupportedOperationException",
        "long modelsOf(int) IllegalArgumentException NoSuchElementException",
        "boolean areSame(int int) IllegalArgumentException NoSuchElementException UnsupportedOperationException",
        "boolean isWithin(int int) IllegalArgumentException NoSuchElementException UnsupportedOperationException",
        "float density()",
        "double meanTrue() NoSuchElementException",
    };

    private static String told(Method method) {
        StringBuilder told = new StringBuilder();
        told.append(method.getReturnType()).append(' ').append(method.getName()).append('(');
        String gap = "";
        for (Class<?> type : method.getParameterTypes()) {
            told.append(gap).append(type);
            gap = " ";
        }
        told.append(')');
        for (Class<?> type : method.getExceptionTypes()) {
            told.append(' ').append(type.getSimpleName());
        }
        return told.toString();
    }

    public static void main(String[] args) {
        Class<?> face = Countfall.class;
        Set<String> seen = new TreeSet<>();
        Set<String> names = new TreeSet<>();
        for (Method method : face.getDeclaredMethods()) {
            if (Modifier.isPublic(method.getModifiers())) {
                seen.add(told(method));
                names.add(method.getName());
                Check.due(method.getName() + " is static", Modifier.isStatic(method.getModifiers()), false);
            }
        }
        Check.due("the public methods", seen, new TreeSet<>(Arrays.asList(FACE)));
        Check.due("the class's modifiers", Modifier.toString(face.getModifiers()), "public final");
        Check.due("the class above", face.getSuperclass(), Object.class);
        for (Constructor<?> constructor : face.getDeclaredConstructors()) {
            Check.due("the constructor", constructor.toString(), "public Countfall()");
        }
        for (Method method : face.getDeclaredMethods()) {
            boolean isPublic = Modifier.isPublic(method.getModifiers());
            Check.due(method + " is private", Modifier.isPrivate(method.getModifiers()), !isPublic);
            Check.due(method + " bears a public name", !isPublic && names.contains(method.getName()), false);
        }
        Check.end();
    }
}
