import java.math.BigInteger;
import java.util.ArrayList;
import java.util.Collections;
import java.util.Comparator;
import java.util.HashSet;
import java.util.List;
import java.util.NoSuchElementException;
import java.util.Set;
import java.util.TreeSet;

/**
 * The document read a second time, slowly and by other ways than Countfall's: assignments are texts
 * of '0' and '1', the lowest variable first, so that the order of the texts is that of coming.
 */
public final class Reference {
    private record Told(char kind, int yes, int no, int least, int greatest) {
        boolean isMet(String assignment) {
            int count = 0;
            boolean meant = false;
            for (int i = 0; i < assignment.length(); i++) {
                boolean isTrue = assignment.charAt(i) == '1';
                boolean inYes = (yes >> i & 1) == 1;
                boolean inNo = (no >> i & 1) == 1;
                meant |= isTrue && inYes || !isTrue && inNo;
                count += isTrue && inYes ? 1 : 0;
            }
            return switch (kind) {
                case 'o' -> meant;
                case 'x' -> count % 2 == least;
                default -> least <= count && count <= greatest;
            };
        }

        boolean has(int variable) {
            return ((yes | no) >> variable & 1) == 1;
        }
    }

    private final List<int[]> weights = new ArrayList<>();
    private final List<Integer> evidence = new ArrayList<>();
    private final List<Integer> order = new ArrayList<>();
    private final List<Told> told = new ArrayList<>();
    private final Set<Integer> dropped = new HashSet<>();
    private final List<TreeSet<String>> kept = new ArrayList<>(Collections.nCopies(4, null));
    private final int[] keptVariables = new int[4];

    private int n() {
        return weights.size();
    }

    private static void ioobe(boolean bad) {
        if (bad) {
            throw new IndexOutOfBoundsException();
        }
    }

    private static void iae(boolean bad) {
        if (bad) {
            throw new IllegalArgumentException();
        }
    }

    private static void ise(boolean bad) {
        if (bad) {
            throw new IllegalStateException();
        }
    }

    private static void nsee(boolean bad) {
        if (bad) {
            throw new NoSuchElementException();
        }
    }

    private static void uoe(boolean bad) {
        if (bad) {
            throw new UnsupportedOperationException();
        }
    }

    private boolean noVariable(int variable) {
        return variable < 0 || variable >= n();
    }

    private boolean noSet(int set) {
        return set < 0 || set >= (int) Math.round(Math.pow(2, n()));
    }

    private static boolean noSlot(int slot) {
        return slot < 0 || slot > 3;
    }

    private boolean noConstraint(int constraint) {
        return constraint < 0 || constraint >= told.size();
    }

    public int addVariable() {
        ise(n() == 10);
        weights.add(new int[] {1, 1});
        evidence.add(-1);
        order.add(order.size());
        return n() - 1;
    }

    public int setWeights(int variable, int no, int yes) {
        ioobe(noVariable(variable));
        iae(no < 0 || no > 9 || yes < 0 || yes > 9);
        int[] old = weights.set(variable, new int[] {no, yes});
        return old[0] * 10 + old[1];
    }

    private int tell(Told one) {
        ise(told.size() == 20);
        told.add(one);
        return told.size() - 1;
    }

    public int addClause(int yes, int no) {
        iae(noSet(yes) || noSet(no) || yes == 0 && no == 0);
        return tell(new Told('o', yes, no, 0, 0));
    }

    public int addParity(int set, int rest) {
        iae(noSet(set) || set == 0 || rest < 0 || rest > 1);
        return tell(new Told('x', set, 0, rest, 0));
    }

    public int addBound(int set, int least, int greatest) {
        iae(noSet(set) || set == 0 || least < 0 || least > 10 || greatest < 0 || greatest > 10
                || least > greatest);
        return tell(new Told('k', set, 0, least, greatest));
    }

    public int drop(int constraint) {
        ioobe(noConstraint(constraint));
        ise(dropped.contains(constraint));
        dropped.add(constraint);
        return told.size() - dropped.size();
    }

    public char kind(int constraint) {
        ioobe(noConstraint(constraint));
        return told.get(constraint).kind();
    }

    public int setEvidence(int variable, int value) {
        ioobe(noVariable(variable));
        iae(value < -1 || value > 1);
        return evidence.set(variable, value);
    }

    public boolean holds(int constraint, int assignment) {
        ioobe(noConstraint(constraint));
        iae(noSet(assignment));
        return told.get(constraint).isMet(text(assignment));
    }

    private String text(int assignment) {
        StringBuilder text = new StringBuilder();
        for (int i = 0; i < n(); i++) {
            text.append(assignment >> i & 1);
        }
        return text.toString();
    }

    private static int number(String assignment) {
        return assignment.isEmpty() ? 0
                : Integer.parseInt(new StringBuilder(assignment).reverse().toString(), 2);
    }

    private List<Told> live() {
        List<Told> live = new ArrayList<>();
        for (int i = 0; i < told.size(); i++) {
            if (!dropped.contains(i)) {
                live.add(told.get(i));
            }
        }
        return live;
    }

    private TreeSet<String> all() {
        TreeSet<String> all = new TreeSet<>();
        for (int a = 0; a < 1 << n(); a++) {
            all.add(text(a));
        }
        return all;
    }

    private TreeSet<String> found() {
        TreeSet<String> found = all();
        for (int i = 0; i < n(); i++) {
            int variable = i;
            int value = evidence.get(i);
            found.removeIf(a -> value != -1 && a.charAt(variable) != '0' + value);
        }
        for (Told one : live()) {
            found.removeIf(a -> !one.isMet(a));
        }
        return found;
    }

    private long weigh(String assignment) {
        long product = 1;
        for (int i = 0; i < n(); i++) {
            product *= weights.get(i)[assignment.charAt(i) - '0'];
        }
        return product;
    }

    public long models() {
        return found().size();
    }

    public long modelsByAll() {
        return found().size();
    }

    public long weight() {
        return found().stream().mapToLong(this::weigh).sum();
    }

    public long weightWith(int variable, int value) {
        ioobe(noVariable(variable));
        iae(value != 0 && value != 1);
        return found().stream().filter(a -> a.charAt(variable) == '0' + value).mapToLong(this::weigh).sum();
    }

    private long chance(int variable, boolean top) {
        ioobe(noVariable(variable));
        nsee(weight() == 0);
        BigInteger above = BigInteger.valueOf(weightWith(variable, 1));
        BigInteger below = BigInteger.valueOf(weight());
        return (top ? above : below).divide(above.gcd(below)).longValueExact();
    }

    public long chanceTop(int variable) {
        return chance(variable, true);
    }

    public long chanceBottom(int variable) {
        return chance(variable, false);
    }

    public long projected(int set) {
        iae(noSet(set));
        Set<Integer> seen = new HashSet<>();
        for (String a : found()) {
            seen.add(number(a) & set);
        }
        return seen.size();
    }

    public char implied(int variable) {
        ioobe(noVariable(variable));
        Set<Character> seen = new HashSet<>();
        for (String a : found()) {
            seen.add(a.charAt(variable));
        }
        return seen.isEmpty() ? 'n' : seen.size() == 2 ? '-' : seen.contains('1') ? 't' : 'f';
    }

    private int[] names() {
        int[] names = new int[n()];
        for (int i = 0; i < n(); i++) {
            names[i] = evidence.get(i) == -1 ? i : -1;
        }
        for (int round = 0; round < n(); round++) {
            for (Told one : live()) {
                for (int i = 0; i < n(); i++) {
                    for (int j = 0; j < n(); j++) {
                        if (names[i] >= 0 && names[j] >= 0 && one.has(i) && one.has(j)) {
                            names[i] = Math.min(names[i], names[j]);
                        }
                    }
                }
            }
        }
        return names;
    }

    public int parts() {
        Set<Integer> seen = new HashSet<>();
        for (int name : names()) {
            if (name >= 0) {
                seen.add(name);
            }
        }
        return seen.size();
    }

    public int partOf(int variable) {
        ioobe(noVariable(variable));
        nsee(evidence.get(variable) != -1);
        return names()[variable];
    }

    public long modelsOfPart(int variable) {
        ioobe(noVariable(variable));
        nsee(evidence.get(variable) != -1);
        int[] names = names();
        TreeSet<String> choices = all();
        for (int i = 0; i < n(); i++) {
            int place = i;
            char value = evidence.get(i) == 1 ? '1' : '0';
            choices.removeIf(a -> names[place] != names[variable] && a.charAt(place) != value);
        }
        for (Told one : live()) {
            for (int i = 0; i < n(); i++) {
                if (names[i] == names[variable] && one.has(i)) {
                    choices.removeIf(a -> !one.isMet(a));
                }
            }
        }
        return choices.size();
    }

    public int best(int rank) {
        iae(rank < 0 || rank > 20);
        List<String> sorted = new ArrayList<>(found());
        sorted.sort(Comparator.comparingLong((String a) -> -weigh(a)).thenComparing(a -> a));
        nsee(sorted.size() <= rank);
        return number(sorted.get(rank));
    }

    public long weightOf(int assignment) {
        iae(noSet(assignment));
        return weigh(text(assignment));
    }

    public int lucky(long luck) {
        iae(luck < 0 || luck >= weight());
        long sum = 0;
        for (String a : found()) {
            sum += weigh(a);
            if (sum > luck) {
                return number(a);
            }
        }
        throw new AssertionError();
    }

    public int first() {
        nsee(found().isEmpty());
        return number(found().first());
    }

    /** The row of answers when the variables are asked in the order. */
    private String row(Set<String> set) {
        StringBuilder row = new StringBuilder();
        for (int choice = 0; choice < 1 << n(); choice++) {
            char[] assignment = new char[n()];
            for (int place = 0; place < n(); place++) {
                assignment[order.get(place)] = (choice >> (n() - 1 - place) & 1) == 1 ? '1' : '0';
            }
            row.append(set.contains(new String(assignment)) ? '1' : '0');
        }
        return row.toString();
    }

    private int nodesAt(String row, int place) {
        Set<String> nodes = new HashSet<>();
        int length = row.length() >> place;
        for (int start = 0; start < row.length(); start += length) {
            String part = row.substring(start, start + length);
            if (!part.substring(0, length / 2).equals(part.substring(length / 2))) {
                nodes.add(part);
            }
        }
        return nodes.size();
    }

    private int nodesIn(Set<String> set) {
        int count = 0;
        for (int place = 0; place < n(); place++) {
            count += nodesAt(row(set), place);
        }
        return count;
    }

    private static long waysOf(String row) {
        if (row.indexOf('1') < 0) {
            return 0;
        }
        if (row.indexOf('0') < 0) {
            return 1;
        }
        String low = row.substring(0, row.length() / 2);
        String high = row.substring(row.length() / 2);
        return low.equals(high) ? waysOf(low) : waysOf(low) + waysOf(high);
    }

    public int nodes() {
        return nodesIn(found());
    }

    public int nodesFor(int variable) {
        ioobe(noVariable(variable));
        return nodesAt(row(found()), order.indexOf(variable));
    }

    public long ways() {
        return waysOf(row(found()));
    }

    public int exchange(int place, int other) {
        ioobe(noVariable(place) || noVariable(other));
        Collections.swap(order, place, other);
        return nodes();
    }

    public int orderAt(int place) {
        ioobe(noVariable(place));
        return order.get(place);
    }

    private int put(int slot, TreeSet<String> set) {
        kept.set(slot, set);
        keptVariables[slot] = n();
        return nodesIn(set);
    }

    public int keep(int slot) {
        iae(noSlot(slot));
        return put(slot, found());
    }

    public int join(int slot, int other, char how, int into) {
        iae(noSlot(slot) || noSlot(other) || noSlot(into) || "aox".indexOf(how) < 0);
        nsee(kept.get(slot) == null || kept.get(other) == null);
        uoe(keptVariables[slot] != n() || keptVariables[other] != n());
        TreeSet<String> result = all();
        result.removeIf(a -> {
            int count = (kept.get(slot).contains(a) ? 1 : 0) + (kept.get(other).contains(a) ? 1 : 0);
            return !(how == 'a' ? count == 2 : how == 'o' ? count > 0 : count == 1);
        });
        return put(into, result);
    }

    private static String replaced(String assignment, int variable, int value) {
        return assignment.substring(0, variable) + value + assignment.substring(variable + 1);
    }

    public int fix(int slot, int variable, int value) {
        iae(noSlot(slot) || value != 0 && value != 1);
        ioobe(noVariable(variable));
        nsee(kept.get(slot) == null);
        uoe(keptVariables[slot] != n());
        TreeSet<String> result = all();
        result.removeIf(a -> !kept.get(slot).contains(replaced(a, variable, value)));
        return put(slot, result);
    }

    public int free(int slot, int variable) {
        iae(noSlot(slot));
        ioobe(noVariable(variable));
        nsee(kept.get(slot) == null);
        uoe(keptVariables[slot] != n());
        TreeSet<String> result = all();
        result.removeIf(a -> !kept.get(slot).contains(replaced(a, variable, 0))
                && !kept.get(slot).contains(replaced(a, variable, 1)));
        return put(slot, result);
    }

    public int nodesOf(int slot) {
        iae(noSlot(slot));
        nsee(kept.get(slot) == null);
        uoe(keptVariables[slot] != n());
        return nodesIn(kept.get(slot));
    }

    public long modelsOf(int slot) {
        iae(noSlot(slot));
        nsee(kept.get(slot) == null);
        return kept.get(slot).size();
    }

    public boolean areSame(int slot, int other) {
        iae(noSlot(slot) || noSlot(other));
        nsee(kept.get(slot) == null || kept.get(other) == null);
        uoe(keptVariables[slot] != keptVariables[other]);
        return kept.get(slot).equals(kept.get(other));
    }

    public boolean isWithin(int slot, int other) {
        iae(noSlot(slot) || noSlot(other));
        nsee(kept.get(slot) == null || kept.get(other) == null);
        uoe(keptVariables[slot] != keptVariables[other]);
        return kept.get(other).containsAll(kept.get(slot));
    }

    public float density() {
        return (float) found().size() / (float) all().size();
    }

    public double meanTrue() {
        nsee(weight() == 0);
        long sum = 0;
        for (String a : found()) {
            sum += weigh(a) * a.chars().filter(c -> c == '1').count();
        }
        return (double) sum / (double) weight();
    }
}
