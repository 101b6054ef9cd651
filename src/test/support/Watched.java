import java.util.ArrayList;
import java.util.List;

/**
 * A Countfall that keeps its calls, so that they can be made again on a new one. It refuses to be used
 * for more calls than the document promises of one object.
 */
public final class Watched {
    /** One call of the face. */
    public interface Step<T> {
        T on(Countfall counter);
    }

    public static final int MOST_CALLS = 512;

    private final Countfall counter = new Countfall();
    private final List<Step<?>> answered = new ArrayList<>();
    private Step<?> last = null;
    private int calls = 0;

    /** Makes calls again that were answered before. */
    public static Watched after(List<Step<?>> steps) {
        Watched again = new Watched();
        for (Step<?> step : steps) {
            again.make(step);
        }
        return again;
    }

    public int calls() {
        return calls;
    }

    /** The calls that threw nothing. */
    public List<Step<?>> answered() {
        return new ArrayList<>(answered);
    }

    /** The call that was made last, whether it threw or not. */
    public Step<?> last() {
        return last;
    }

    private <T> T make(Step<T> step) {
        if (calls >= MOST_CALLS) {
            throw new AssertionError("the test uses an object for more than " + MOST_CALLS + " calls");
        }
        calls++;
        last = step;
        T answer = step.on(counter);
        answered.add(step);
        return answer;
    }

    public int addVariable() {
        return make(c -> c.addVariable());
    }

    public int setWeights(int variable, int no, int yes) {
        return make(c -> c.setWeights(variable, no, yes));
    }

    public int addClause(int yes, int no) {
        return make(c -> c.addClause(yes, no));
    }

    public int addParity(int set, int rest) {
        return make(c -> c.addParity(set, rest));
    }

    public int addBound(int set, int least, int greatest) {
        return make(c -> c.addBound(set, least, greatest));
    }

    public int drop(int constraint) {
        return make(c -> c.drop(constraint));
    }

    public char kind(int constraint) {
        return make(c -> c.kind(constraint));
    }

    public int setEvidence(int variable, int value) {
        return make(c -> c.setEvidence(variable, value));
    }

    public boolean holds(int constraint, int assignment) {
        return make(c -> c.holds(constraint, assignment));
    }

    public long models() {
        return make(c -> c.models());
    }

    public long modelsByAll() {
        return make(c -> c.modelsByAll());
    }

    public long weight() {
        return make(c -> c.weight());
    }

    public long weightWith(int variable, int value) {
        return make(c -> c.weightWith(variable, value));
    }

    public long chanceTop(int variable) {
        return make(c -> c.chanceTop(variable));
    }

    public long chanceBottom(int variable) {
        return make(c -> c.chanceBottom(variable));
    }

    public long projected(int set) {
        return make(c -> c.projected(set));
    }

    public char implied(int variable) {
        return make(c -> c.implied(variable));
    }

    public int parts() {
        return make(c -> c.parts());
    }

    public int partOf(int variable) {
        return make(c -> c.partOf(variable));
    }

    public long modelsOfPart(int variable) {
        return make(c -> c.modelsOfPart(variable));
    }

    public int best(int rank) {
        return make(c -> c.best(rank));
    }

    public long weightOf(int assignment) {
        return make(c -> c.weightOf(assignment));
    }

    public int lucky(long luck) {
        return make(c -> c.lucky(luck));
    }

    public int first() {
        return make(c -> c.first());
    }

    public int nodes() {
        return make(c -> c.nodes());
    }

    public int nodesFor(int variable) {
        return make(c -> c.nodesFor(variable));
    }

    public long ways() {
        return make(c -> c.ways());
    }

    public int exchange(int place, int other) {
        return make(c -> c.exchange(place, other));
    }

    public int orderAt(int place) {
        return make(c -> c.orderAt(place));
    }

    public int keep(int slot) {
        return make(c -> c.keep(slot));
    }

    public int join(int slot, int other, char how, int into) {
        return make(c -> c.join(slot, other, how, into));
    }

    public int fix(int slot, int variable, int value) {
        return make(c -> c.fix(slot, variable, value));
    }

    public int free(int slot, int variable) {
        return make(c -> c.free(slot, variable));
    }

    public int nodesOf(int slot) {
        return make(c -> c.nodesOf(slot));
    }

    public long modelsOf(int slot) {
        return make(c -> c.modelsOf(slot));
    }

    public boolean areSame(int slot, int other) {
        return make(c -> c.areSame(slot, other));
    }

    public boolean isWithin(int slot, int other) {
        return make(c -> c.isWithin(slot, other));
    }

    public float density() {
        return make(c -> c.density());
    }

    public double meanTrue() {
        return make(c -> c.meanTrue());
    }
}
