import java.util.NoSuchElementException;

/**
 * A counter of models: clauses, parities and bounds over at most ten variables are told, and what
 * fulfils them is counted, weighed, ranked and made into circuits of decisions.
 *
 * <p>A set of variables, and an assignment too, is an int with the bit 2 to the power of the number
 * of each variable in it.
 */
public final class Countfall {
    private static final int MOST_VARIABLES = 10;
    private static final int MOST_ASSIGNMENTS = 1024;
    private static final int MOST_CONSTRAINTS = 20;
    private static final int GREATEST_WEIGHT = 9;
    private static final int GREATEST_BOUND = 10;
    private static final int GREATEST_RANK = 20;
    private static final int SLOTS = 4;
    /** Far more than Euclid's way needs for the greatest weights, which stay under 2 to the 42. */
    private static final int MOST_DIVISIONS = 200;

    private int variables;
    private final IntRow falseWeights = new IntRow(MOST_VARIABLES);
    private final IntRow trueWeights = new IntRow(MOST_VARIABLES);
    /** The weight of each assignment, as the weights are now. */
    private final LongRow products = new LongRow(MOST_ASSIGNMENTS);
    /** The variables with evidence, and those of them whose evidence is true. */
    private int settled;
    private int settledTrue;
    private final IntRow order = new IntRow(MOST_VARIABLES);
    private final Constraints constraints = new Constraints();
    private final PartMemory partMemory = new PartMemory();
    private final Assignments modelSet = new Assignments();
    private boolean modelSetIsFresh;
    private final Assignments projections = new Assignments();
    private final Ranking ranking = new Ranking();
    private final Circuit circuit = new Circuit();
    private final Assignments[] slots = new Assignments[SLOTS];

    /** Creates a counter without variables and constraints. */
    public Countfall() {
        products.put(0, 1L);
        for (int slot = 0; slot < slots.length; slot++) {
            slots[slot] = new Assignments();
        }
    }

    // Variables, constraints, evidence.

    /** Adds a variable, the last in the order, and returns its number. */
    public int addVariable() throws IllegalStateException {
        if (variables >= MOST_VARIABLES) {
            throw new IllegalStateException("there are 10 variables");
        }
        int variable = variables;
        variables++;
        falseWeights.put(variable, 1);
        trueWeights.put(variable, 1);
        order.put(variable, variable);
        multiplyWeights();
        modelSetIsFresh = false;
        return variable;
    }

    /** Sets the weights of a variable and returns ten times the old one for false, plus that for true. */
    public int setWeights(int variable, int no, int yes)
            throws IndexOutOfBoundsException, IllegalArgumentException {
        checkVariable(variable);
        if (no < 0 || no > GREATEST_WEIGHT || yes < 0 || yes > GREATEST_WEIGHT) {
            throw new IllegalArgumentException("a weight is not from 0 to 9");
        }
        int before = 10 * falseWeights.at(variable) + trueWeights.at(variable);
        falseWeights.put(variable, no);
        trueWeights.put(variable, yes);
        multiplyWeights();
        return before;
    }

    /** Tells a clause and returns its number. */
    public int addClause(int yes, int no) throws IllegalArgumentException, IllegalStateException {
        checkSet(yes);
        checkSet(no);
        checkNotEmpty(yes | no);
        checkRoom();
        return tell(new Clause(yes, no));
    }

    /** Tells a parity and returns its number. */
    public int addParity(int set, int rest) throws IllegalArgumentException, IllegalStateException {
        checkSet(set);
        checkNotEmpty(set);
        checkValue(rest);
        checkRoom();
        return tell(new Parity(set, rest));
    }

    /** Tells a bound and returns its number. */
    public int addBound(int set, int least, int greatest)
            throws IllegalArgumentException, IllegalStateException {
        checkSet(set);
        checkNotEmpty(set);
        if (least < 0 || greatest > GREATEST_BOUND || least > greatest) {
            throw new IllegalArgumentException("the numbers are not from 0 to 10, or the least is greater");
        }
        checkRoom();
        return tell(new Bound(set, least, greatest));
    }

    /** Drops a constraint and returns how many are not dropped then. */
    public int drop(int constraint) throws IndexOutOfBoundsException, IllegalStateException {
        constraintAt(constraint);
        if (!constraints.isLive(constraint)) {
            throw new IllegalStateException("the constraint was dropped");
        }
        constraints.strike(constraint);
        modelSetIsFresh = false;
        return Integer.bitCount(constraints.live());
    }

    /** Returns the kind of a constraint: 'o', 'x' or 'k'. */
    public char kind(int constraint) throws IndexOutOfBoundsException {
        return constraintAt(constraint).sign;
    }

    /** Sets the evidence of a variable, or takes it away with -1, and returns what it was before. */
    public int setEvidence(int variable, int value)
            throws IndexOutOfBoundsException, IllegalArgumentException {
        checkVariable(variable);
        if (value < -1 || value > 1) {
            throw new IllegalArgumentException("the evidence is not from -1 to 1");
        }
        int before = isSettled(variable) ? settledTrue >> variable & 1 : -1;
        int bit = 1 << variable;
        settled = value == -1 ? settled & ~bit : settled | bit;
        settledTrue = value == 1 ? settledTrue | bit : settledTrue & ~bit;
        modelSetIsFresh = false;
        return before;
    }

    /** Tells whether a constraint, dropped or not, holds in an assignment. */
    public boolean holds(int constraint, int assignment)
            throws IndexOutOfBoundsException, IllegalArgumentException {
        Constraint told = constraintAt(constraint);
        checkSet(assignment);
        return told.isMetBy(assignment);
    }

    // Counts and chances.

    /** Returns the number of models, found by parts. */
    public long models() {
        int open = openVariables();
        int withoutPart = constraints.live() & ~constraints.touching(open);
        if (!constraints.areMet(withoutPart, settledTrue)) {
            return 0L;
        }
        long product = 1L;
        int done = 0;
        for (int variable = 0; variable < variables; variable++) {
            if ((open & ~done & 1 << variable) != 0) {
                int part = partWith(variable);
                product *= countPart(part);
                done |= part;
            }
        }
        return product;
    }

    /** Returns the number of models, found by all assignments. */
    public long modelsByAll() {
        return freshModels().size();
    }

    /** Returns the sum of the weights of all models. */
    public long weight() {
        return weightWhere(0, 0);
    }

    /** Returns the sum of the weights of the models in which a variable has a value. */
    public long weightWith(int variable, int value)
            throws IndexOutOfBoundsException, IllegalArgumentException {
        checkVariable(variable);
        checkValue(value);
        return weightWhere(1 << variable, value << variable);
    }

    /** Returns the numerator, in lowest terms, of the chance that a variable is true. */
    public long chanceTop(int variable) throws IndexOutOfBoundsException, NoSuchElementException {
        checkVariable(variable);
        long all = positiveWeight();
        long top = weightWhere(1 << variable, 1 << variable);
        return lowered(top, top, all);
    }

    /** Returns the denominator of this chance. */
    public long chanceBottom(int variable) throws IndexOutOfBoundsException, NoSuchElementException {
        checkVariable(variable);
        long all = positiveWeight();
        return lowered(all, weightWhere(1 << variable, 1 << variable), all);
    }

    /** Returns how many choices of values for the variables of a set are those of some model. */
    public long projected(int set) throws IllegalArgumentException {
        checkSet(set);
        Assignments models = freshModels();
        projections.restart(variables);
        for (int assignment = 0; assignment < countAssignments(); assignment++) {
            if (models.has(assignment)) {
                projections.add(assignment & set);
            }
        }
        return projections.size();
    }

    /** Returns what a variable is in all models: 't', 'f', '-' for both, 'n' without models. */
    public char implied(int variable) throws IndexOutOfBoundsException {
        checkVariable(variable);
        Assignments models = freshModels();
        boolean isFalse = false;
        boolean isTrue = false;
        for (int assignment = 0; assignment < countAssignments(); assignment++) {
            if (models.has(assignment)) {
                if ((assignment >> variable & 1) != 0) {
                    isTrue = true;
                } else {
                    isFalse = true;
                }
            }
        }
        if (isTrue) {
            return isFalse ? '-' : 't';
        }
        return isFalse ? 'f' : 'n';
    }

    // Parts.

    /** Returns the number of parts. */
    public int parts() {
        int open = openVariables();
        int count = 0;
        int done = 0;
        for (int variable = 0; variable < variables; variable++) {
            if ((open & ~done & 1 << variable) != 0) {
                count++;
                done |= partWith(variable);
            }
        }
        return count;
    }

    /** Returns the name of the part of a variable. */
    public int partOf(int variable) throws IndexOutOfBoundsException, NoSuchElementException {
        checkVariable(variable);
        checkOpen(variable);
        return lowestOf(partWith(variable));
    }

    /** Returns how many models the part of a variable has. */
    public long modelsOfPart(int variable) throws IndexOutOfBoundsException, NoSuchElementException {
        checkVariable(variable);
        checkOpen(variable);
        return countPart(partWith(variable));
    }

    // Best and lucky models.

    /** Returns the model of a rank, the best one having 0. */
    public int best(int rank) throws IllegalArgumentException, NoSuchElementException {
        if (rank < 0 || rank > GREATEST_RANK) {
            throw new IllegalArgumentException("the rank is not from 0 to 20");
        }
        Assignments models = freshModels();
        if (rank >= models.size()) {
            throw new NoSuchElementException("there are not so many models");
        }
        ranking.restart();
        int assignment = 0;
        for (int turn = 0; turn < countAssignments(); turn++) {
            if (models.has(assignment)) {
                ranking.enter(assignment, products.at(assignment));
            }
            assignment = following(assignment);
        }
        return ranking.assignmentAt(rank);
    }

    /** Returns the weight of an assignment, a model or not. */
    public long weightOf(int assignment) throws IllegalArgumentException {
        checkSet(assignment);
        return products.at(assignment);
    }

    /** Returns the first model with which the sum of the weights is greater than a number. */
    public int lucky(long luck) throws IllegalArgumentException {
        if (luck < 0L || luck >= weightWhere(0, 0)) {
            throw new IllegalArgumentException("the number is not from 0 to under the weight of all models");
        }
        Assignments models = freshModels();
        long sum = 0L;
        int last = 0;
        int assignment = 0;
        for (int turn = 0; turn < countAssignments() && sum <= luck; turn++) {
            if (models.has(assignment)) {
                sum += products.at(assignment);
                last = assignment;
            }
            assignment = following(assignment);
        }
        return last;
    }

    /** Returns the model that comes ahead of all others. */
    public int first() throws NoSuchElementException {
        Assignments models = freshModels();
        if (models.size() == 0) {
            throw new NoSuchElementException("there are no models");
        }
        int assignment = 0;
        for (int turn = 1; turn < countAssignments() && !models.has(assignment); turn++) {
            assignment = following(assignment);
        }
        return assignment;
    }

    // The circuit of the models.

    /** Returns the number of nodes of the circuit of the models. */
    public int nodes() {
        return countNodes(freshModels());
    }

    /** Returns how many of these nodes ask for a variable. */
    public int nodesFor(int variable) throws IndexOutOfBoundsException {
        checkVariable(variable);
        circuit.make(freshModels(), order);
        int count = 0;
        for (int place = 0; place < variables; place++) {
            if (order.at(place) == variable) {
                count = circuit.nodesAtPlace(place);
            }
        }
        return count;
    }

    /** Returns how many ways lead from the top to the end for yes. */
    public long ways() {
        circuit.make(freshModels(), order);
        return circuit.waysToYes();
    }

    /** Exchanges the variables at two places and returns the number of nodes then. */
    public int exchange(int place, int other) throws IndexOutOfBoundsException {
        checkPlace(place);
        checkPlace(other);
        int variable = order.at(place);
        order.put(place, order.at(other));
        order.put(other, variable);
        return countNodes(freshModels());
    }

    /** Returns the variable at a place of the order. */
    public int orderAt(int place) throws IndexOutOfBoundsException {
        checkPlace(place);
        return order.at(place);
    }

    // Kept circuits.

    /** Keeps the set of all models in a slot and returns the number of nodes of its circuit. */
    public int keep(int slot) throws IllegalArgumentException {
        Assignments kept = slotAt(slot);
        kept.copy(freshModels());
        return countNodes(kept);
    }

    /** Joins what two slots keep and returns the number of nodes of the circuit. */
    public int join(int slot, int other, char how, int into)
            throws IllegalArgumentException, NoSuchElementException, UnsupportedOperationException {
        Assignments left = slotAt(slot);
        Assignments right = slotAt(other);
        Assignments result = slotAt(into);
        if (how != 'a' && how != 'o' && how != 'x') {
            throw new IllegalArgumentException("no such way to join");
        }
        checkKept(left);
        checkKept(right);
        checkAsManyAsNow(left);
        checkAsManyAsNow(right);
        result.combine(left, right, how);
        return countNodes(result);
    }

    /** Fixes a variable in what a slot keeps and returns the number of nodes of the circuit. */
    public int fix(int slot, int variable, int value)
            throws IllegalArgumentException, IndexOutOfBoundsException, NoSuchElementException,
            UnsupportedOperationException {
        Assignments kept = slotAt(slot);
        checkValue(value);
        checkVariable(variable);
        checkKept(kept);
        checkAsManyAsNow(kept);
        kept.settle(variable, value);
        return countNodes(kept);
    }

    /** Frees what a slot keeps of a variable and returns the number of nodes of the circuit. */
    public int free(int slot, int variable)
            throws IllegalArgumentException, IndexOutOfBoundsException, NoSuchElementException,
            UnsupportedOperationException {
        Assignments kept = slotAt(slot);
        checkVariable(variable);
        checkKept(kept);
        checkAsManyAsNow(kept);
        kept.forget(variable);
        return countNodes(kept);
    }

    /** Returns the number of nodes of the circuit of a slot. */
    public int nodesOf(int slot)
            throws IllegalArgumentException, NoSuchElementException, UnsupportedOperationException {
        Assignments kept = slotAt(slot);
        checkKept(kept);
        checkAsManyAsNow(kept);
        return countNodes(kept);
    }

    /** Returns how many assignments belong to what a slot keeps. */
    public long modelsOf(int slot) throws IllegalArgumentException, NoSuchElementException {
        Assignments kept = slotAt(slot);
        checkKept(kept);
        return kept.size();
    }

    /** Tells whether two slots keep the same. */
    public boolean areSame(int slot, int other)
            throws IllegalArgumentException, NoSuchElementException, UnsupportedOperationException {
        Assignments left = slotAt(slot);
        Assignments right = slotAt(other);
        checkAlike(left, right);
        return left.isContainedIn(right) && right.isContainedIn(left);
    }

    /** Tells whether all that a slot keeps belongs to what another one keeps. */
    public boolean isWithin(int slot, int other)
            throws IllegalArgumentException, NoSuchElementException, UnsupportedOperationException {
        Assignments left = slotAt(slot);
        Assignments right = slotAt(other);
        checkAlike(left, right);
        return left.isContainedIn(right);
    }

    /** Returns the share of the assignments that are models. */
    public float density() {
        return (float) freshModels().size() / (float) countAssignments();
    }

    /** Returns the mean number of true variables in the models, by weight. */
    public double meanTrue() throws NoSuchElementException {
        long all = positiveWeight();
        Assignments models = freshModels();
        long sum = 0L;
        for (int assignment = 0; assignment < countAssignments(); assignment++) {
            if (models.has(assignment)) {
                sum += products.at(assignment) * Integer.bitCount(assignment);
            }
        }
        return (double) sum / (double) all;
    }

    // Tests of arguments.

    private void checkVariable(int variable) {
        if (variable < 0 || variable >= variables) {
            throw new IndexOutOfBoundsException("no such variable");
        }
    }

    private void checkPlace(int place) {
        if (place < 0 || place >= variables) {
            throw new IndexOutOfBoundsException("no such place");
        }
    }

    private void checkSet(int set) {
        if ((set & ~everyVariable()) != 0) {
            throw new IllegalArgumentException("a variable is not there");
        }
    }

    private void checkNotEmpty(int set) {
        if (set == 0) {
            throw new IllegalArgumentException("no variable at all");
        }
    }

    private void checkValue(int value) {
        if (value != 0 && value != 1) {
            throw new IllegalArgumentException("neither 0 nor 1");
        }
    }

    private void checkRoom() {
        if (constraints.count() >= MOST_CONSTRAINTS) {
            throw new IllegalStateException("20 constraints were told");
        }
    }

    private void checkOpen(int variable) {
        if (isSettled(variable)) {
            throw new NoSuchElementException("the variable has evidence");
        }
    }

    private void checkKept(Assignments kept) {
        if (!kept.isMade()) {
            throw new NoSuchElementException("the slot keeps nothing");
        }
    }

    private void checkAsManyAsNow(Assignments kept) {
        if (kept.variables() != variables) {
            throw new UnsupportedOperationException("not as many variables as there are now");
        }
    }

    private void checkAlike(Assignments left, Assignments right) {
        checkKept(left);
        checkKept(right);
        if (left.variables() != right.variables()) {
            throw new UnsupportedOperationException("unlike numbers of variables");
        }
    }

    private Constraint constraintAt(int number) {
        Constraint told = constraints.at(number);
        if (told == null) {
            throw new IndexOutOfBoundsException("no such constraint");
        }
        return told;
    }

    private Assignments slotAt(int slot) {
        Assignments kept = slot >= 0 && slot < slots.length ? slots[slot] : null;
        if (kept == null) {
            throw new IllegalArgumentException("no such slot");
        }
        return kept;
    }

    private long positiveWeight() {
        long all = weightWhere(0, 0);
        if (all == 0L) {
            throw new NoSuchElementException("the weight of all models together is 0");
        }
        return all;
    }

    // Helpers.

    private int countAssignments() {
        return 1 << variables;
    }

    private int everyVariable() {
        return countAssignments() - 1;
    }

    private int openVariables() {
        return everyVariable() & ~settled;
    }

    private boolean isSettled(int variable) {
        return (settled >> variable & 1) != 0;
    }

    private int tell(Constraint constraint) {
        modelSetIsFresh = false;
        return constraints.add(constraint);
    }

    /** Each variable doubles the assignments: the old ones are those in which it is false. */
    private void multiplyWeights() {
        products.put(0, 1L);
        for (int variable = 0; variable < variables; variable++) {
            int bit = 1 << variable;
            long no = falseWeights.at(variable);
            long yes = trueWeights.at(variable);
            for (int assignment = 0; assignment < bit; assignment++) {
                long before = products.at(assignment);
                products.put(assignment, before * no);
                products.put(assignment | bit, before * yes);
            }
        }
    }

    private Assignments freshModels() {
        if (!modelSetIsFresh) {
            modelSet.restart(variables);
            int live = constraints.live();
            for (int assignment = 0; assignment < countAssignments(); assignment++) {
                if ((assignment & settled) == settledTrue && constraints.areMet(live, assignment)) {
                    modelSet.add(assignment);
                }
            }
            modelSetIsFresh = true;
        }
        return modelSet;
    }

    /** The weight of the models whose true variables among some are just these. */
    private long weightWhere(int among, int these) {
        Assignments models = freshModels();
        long sum = 0L;
        for (int assignment = 0; assignment < countAssignments(); assignment++) {
            if ((assignment & among) == these && models.has(assignment)) {
                sum += products.at(assignment);
            }
        }
        return sum;
    }

    /** A number divided by the greatest divisor that two others share. */
    private static long lowered(long number, long top, long bottom) {
        long divisor = bottom;
        long rest = top;
        for (int step = 0; step < MOST_DIVISIONS && rest != 0L; step++) {
            long next = divisor % rest;
            divisor = rest;
            rest = next;
        }
        return divisor == 0L ? number : number / divisor;
    }

    /** The assignment that comes next: as the lowest variable counts most, the highest changes first. */
    private int following(int assignment) {
        int next = assignment;
        for (int variable = variables - 1; variable >= 0; variable--) {
            int bit = 1 << variable;
            next ^= bit;
            if ((next & bit) != 0) {
                return next;
            }
        }
        return next;
    }

    private int countNodes(Assignments set) {
        circuit.make(set, order);
        return circuit.nodesInAll();
    }

    /** The part of a variable: each round adds those that are joined to it, until none is new. */
    private int partWith(int variable) {
        int open = openVariables();
        int part = 1 << variable;
        int before = 0;
        for (int round = 0; round < MOST_VARIABLES && part != before; round++) {
            before = part;
            part |= constraints.membersOf(constraints.touching(part)) & open;
        }
        return part;
    }

    private int lowestOf(int set) {
        int variable = 0;
        while (variable < variables && (set >> variable & 1) == 0) {
            variable++;
        }
        return variable;
    }

    private long countPart(int part) {
        int numbers = constraints.touching(part);
        int evidence = settledTrue & constraints.membersOf(numbers);
        int name = lowestOf(part);
        if (!partMemory.hasKept(name, part, numbers, evidence)) {
            partMemory.note(name, part, numbers, evidence, countChoices(part, numbers, evidence));
        }
        return partMemory.recall(name);
    }

    private long countChoices(int part, int numbers, int evidence) {
        long count = 0L;
        int choices = 1 << Integer.bitCount(part);
        int choice = 0;
        for (int step = 0; step < choices; step++) {
            if (constraints.areMet(numbers, choice | evidence)) {
                count++;
            }
            // Taking the part away borrows through all bits outside it, so this is its next subset.
            choice = choice - part & part;
        }
        return count;
    }

    /** A row of numbers whose every index is looked at: outside it holds 0 and takes nothing. */
    private static final class IntRow {
        private final int[] cells;

        IntRow(int length) {
            cells = new int[length > 0 ? length : 0];
        }

        int at(int index) {
            return index >= 0 && index < cells.length ? cells[index] : 0;
        }

        void put(int index, int number) {
            if (index >= 0 && index < cells.length) {
                cells[index] = number;
            }
        }
    }

    /** The same for long numbers. */
    private static final class LongRow {
        private final long[] cells;

        LongRow(int length) {
            cells = new long[length > 0 ? length : 0];
        }

        int length() {
            return cells.length;
        }

        long at(int index) {
            return index >= 0 && index < cells.length ? cells[index] : 0L;
        }

        void put(int index, long number) {
            if (index >= 0 && index < cells.length) {
                cells[index] = number;
            }
        }
    }

    /** What is told of the variables that it has. */
    private abstract static class Constraint {
        final char sign;
        final int members;

        Constraint(char sign, int members) {
            this.sign = sign;
            this.members = members;
        }

        abstract boolean isMetBy(int assignment);
    }

    private static final class Clause extends Constraint {
        private final int yes;
        private final int no;

        Clause(int yes, int no) {
            super('o', yes | no);
            this.yes = yes;
            this.no = no;
        }

        boolean isMetBy(int assignment) {
            return (assignment & yes | ~assignment & no) != 0;
        }
    }

    private static final class Parity extends Constraint {
        private final int rest;

        Parity(int set, int rest) {
            super('x', set);
            this.rest = rest;
        }

        boolean isMetBy(int assignment) {
            return (Integer.bitCount(assignment & members) & 1) == rest;
        }
    }

    private static final class Bound extends Constraint {
        private final int least;
        private final int greatest;

        Bound(int set, int least, int greatest) {
            super('k', set);
            this.least = least;
            this.greatest = greatest;
        }

        boolean isMetBy(int assignment) {
            int count = Integer.bitCount(assignment & members);
            return count >= least && count <= greatest;
        }
    }

    /** All constraints that were told; a set of them is an int with a bit for the number of each. */
    private static final class Constraints {
        private final Constraint[] told = new Constraint[MOST_CONSTRAINTS];
        private int count;
        private int live;

        int count() {
            return count;
        }

        int live() {
            return live;
        }

        boolean isLive(int number) {
            return at(number) != null && (live >> number & 1) != 0;
        }

        /** The constraint with a number, or null if there is none. */
        Constraint at(int number) {
            return number >= 0 && number < told.length ? told[number] : null;
        }

        int add(Constraint constraint) {
            int number = count;
            if (number >= 0 && number < told.length) {
                told[number] = constraint;
                live |= 1 << number;
                count++;
            }
            return number;
        }

        void strike(int number) {
            live &= ~(1 << number);
        }

        boolean areMet(int numbers, int assignment) {
            for (int number = 0; number < count; number++) {
                Constraint constraint = at(number);
                if ((numbers >> number & 1) != 0 && constraint != null && !constraint.isMetBy(assignment)) {
                    return false;
                }
            }
            return true;
        }

        /** Those that are not dropped and have a variable of a set. */
        int touching(int set) {
            int numbers = 0;
            for (int number = 0; number < count; number++) {
                Constraint constraint = at(number);
                if (constraint != null && (constraint.members & set) != 0) {
                    numbers |= 1 << number;
                }
            }
            return numbers & live;
        }

        /** The variables that one or more of them have. */
        int membersOf(int numbers) {
            int members = 0;
            for (int number = 0; number < count; number++) {
                Constraint constraint = at(number);
                if ((numbers >> number & 1) != 0 && constraint != null) {
                    members |= constraint.members;
                }
            }
            return members;
        }
    }

    /**
     * The last part counted under each name, with all that its count depends on: its variables, its
     * constraints, and which of their other variables have true as evidence.
     */
    private static final class PartMemory {
        private final IntRow sets = new IntRow(MOST_VARIABLES);
        private final IntRow constraintSets = new IntRow(MOST_VARIABLES);
        private final IntRow evidences = new IntRow(MOST_VARIABLES);
        private final LongRow counts = new LongRow(MOST_VARIABLES);

        boolean hasKept(int name, int part, int numbers, int evidence) {
            return sets.at(name) == part && constraintSets.at(name) == numbers
                    && evidences.at(name) == evidence;
        }

        void note(int name, int part, int numbers, int evidence, long count) {
            sets.put(name, part);
            constraintSets.put(name, numbers);
            evidences.put(name, evidence);
            counts.put(name, count);
        }

        long recall(int name) {
            return counts.at(name);
        }
    }

    /** A set of assignments of a number of variables, a bit for each assignment. */
    private static final class Assignments {
        private static final int WORD_BITS = 64;
        private static final int NOT_MADE = -1;

        private final LongRow words = new LongRow(MOST_ASSIGNMENTS / WORD_BITS);
        private int variables = NOT_MADE;

        boolean isMade() {
            return variables != NOT_MADE;
        }

        int variables() {
            return variables;
        }

        void restart(int newVariables) {
            variables = newVariables;
            for (int index = 0; index < words.length(); index++) {
                words.put(index, 0L);
            }
        }

        boolean has(int assignment) {
            return (words.at(assignment / WORD_BITS) >>> assignment % WORD_BITS & 1L) != 0L;
        }

        void add(int assignment) {
            int index = assignment / WORD_BITS;
            words.put(index, words.at(index) | 1L << assignment % WORD_BITS);
        }

        int size() {
            int size = 0;
            for (int index = 0; index < words.length(); index++) {
                size += Long.bitCount(words.at(index));
            }
            return size;
        }

        void copy(Assignments other) {
            variables = other.variables;
            for (int index = 0; index < words.length(); index++) {
                words.put(index, other.words.at(index));
            }
        }

        boolean isContainedIn(Assignments other) {
            for (int index = 0; index < words.length(); index++) {
                if ((words.at(index) & ~other.words.at(index)) != 0L) {
                    return false;
                }
            }
            return true;
        }

        /** Both may be this one too: each word is read before it is written. */
        void combine(Assignments left, Assignments right, char how) {
            variables = left.variables;
            for (int index = 0; index < words.length(); index++) {
                long one = left.words.at(index);
                long two = right.words.at(index);
                words.put(index, how == 'a' ? one & two : how == 'o' ? one | two : one ^ two);
            }
        }

        void settle(int variable, int value) {
            int bit = 1 << variable;
            for (int assignment = 0; assignment < 1 << variables; assignment++) {
                if ((assignment & bit) == 0) {
                    boolean belongs = has(assignment | value << variable);
                    putPair(assignment, assignment | bit, belongs);
                }
            }
        }

        void forget(int variable) {
            int bit = 1 << variable;
            for (int assignment = 0; assignment < 1 << variables; assignment++) {
                if ((assignment & bit) == 0) {
                    boolean belongs = has(assignment) || has(assignment | bit);
                    putPair(assignment, assignment | bit, belongs);
                }
            }
        }

        private void putPair(int one, int two, boolean belongs) {
            if (belongs) {
                add(one);
                add(two);
            } else {
                remove(one);
                remove(two);
            }
        }

        private void remove(int assignment) {
            int index = assignment / WORD_BITS;
            words.put(index, words.at(index) & ~(1L << assignment % WORD_BITS));
        }
    }

    /** The best of the models that enter, as many as there are ranks. */
    private static final class Ranking {
        private static final int RANKS = GREATEST_RANK + 1;

        private final IntRow assignments = new IntRow(RANKS);
        private final LongRow weights = new LongRow(RANKS);
        private int count;

        void restart() {
            count = 0;
        }

        /** They enter in the order in which they come, so one stays behind those with the same weight. */
        void enter(int assignment, long weight) {
            int rank = count;
            while (rank > 0 && weights.at(rank - 1) < weight) {
                // What is moved past the last rank falls out: the rows take nothing there.
                assignments.put(rank, assignments.at(rank - 1));
                weights.put(rank, weights.at(rank - 1));
                rank--;
            }
            assignments.put(rank, assignment);
            weights.put(rank, weight);
            count = count < RANKS ? count + 1 : RANKS;
        }

        int assignmentAt(int rank) {
            return assignments.at(rank);
        }
    }

    /**
     * The smallest circuit of a set of assignments, made anew for each question. Its ends and nodes
     * are numbered, those of later places lower.
     */
    private static final class Circuit {
        private static final int NO = 0;
        private static final int YES = 1;
        private static final int FIRST_NODE = 2;
        /** With 10 variables at most 1 + 2 + .. + 128 ask at the first eight places, then 12, then 2. */
        private static final int MOST_NODES = 272;

        /** Where the choices of values for the first places lead, the earlier place counting more. */
        private final IntRow tops = new IntRow(MOST_ASSIGNMENTS);
        private final IntRow falseWays = new IntRow(MOST_NODES);
        private final IntRow trueWays = new IntRow(MOST_NODES);
        private final IntRow yesWays = new IntRow(MOST_NODES);
        private final IntRow placeCounts = new IntRow(MOST_VARIABLES);
        private int size;

        void make(Assignments set, IntRow order) {
            int places = set.variables();
            layOut(places, order);
            for (int choice = 0; choice < 1 << places; choice++) {
                tops.put(choice, set.has(tops.at(choice)) ? YES : NO);
            }
            yesWays.put(NO, 0);
            yesWays.put(YES, 1);
            size = FIRST_NODE;
            for (int place = places - 1; place >= 0; place--) {
                mergePlace(place);
            }
        }

        int nodesInAll() {
            return size - FIRST_NODE;
        }

        int nodesAtPlace(int place) {
            return placeCounts.at(place);
        }

        int waysToYes() {
            return yesWays.at(tops.at(0));
        }

        /** Puts the assignment of each choice of values for all places. */
        private void layOut(int places, IntRow order) {
            tops.put(0, 0);
            int filled = 1;
            for (int place = places - 1; place >= 0; place--) {
                int bit = 1 << order.at(place);
                for (int choice = 0; choice < filled; choice++) {
                    tops.put(filled + choice, tops.at(choice) | bit);
                }
                filled *= 2;
            }
        }

        /** Leaves the choices for the places ahead of this one, with where they lead. */
        private void mergePlace(int place) {
            int firstHere = size;
            for (int choice = 0; choice < 1 << place; choice++) {
                int no = tops.at(2 * choice);
                int yes = tops.at(2 * choice + 1);
                tops.put(choice, no == yes ? no : nodeWith(no, yes, firstHere));
            }
            placeCounts.put(place, size - firstHere);
        }

        private int nodeWith(int no, int yes, int firstHere) {
            for (int node = firstHere; node < size; node++) {
                if (falseWays.at(node) == no && trueWays.at(node) == yes) {
                    return node;
                }
            }
            int node = size;
            falseWays.put(node, no);
            trueWays.put(node, yes);
            yesWays.put(node, yesWays.at(no) + yesWays.at(yes));
            size++;
            return node;
        }
    }
}
