/** Promises 11 to 18 sentence by sentence: no variables, ten, no models, all of them, and what is outside. */
public final class CountEdgesTest {
    private static final int[] NUMBERS = {0, 1, 2, 9, 10};
    private static final long NINES = 3486784401L;

    public static void main(String[] args) {
        withoutVariables();
        allAssignments();
        oneModel();
        noModels();
        settledByEvidence();
        droppedAndSettled();
        twentyAtOnce();
        weights();
        weightsOfNothing();
        weightWithEach();
        wrongWeightWith();
        chances();
        greatChance();
        chancesAtEnds();
        noChance();
        wrongChances();
        projectedEach();
        projectedOfAll();
        projectedOfNone();
        wrongProjected();
        implied();
        impliedWithoutModels();
        wrongImplied();
        Check.end();
    }

    private static void dueModels(String what, Watched x, long want) {
        Check.due("11: " + what, x.models(), want);
        Check.due("12: " + what, x.modelsByAll(), want);
    }

    private static void withoutVariables() {
        Watched x = new Watched();
        dueModels("the assignment of nothing", x, 1L);
        Check.due("13: of nothing", x.weight(), 1L);
        Check.due("17: of nothing", x.projected(0), 1L);
        Check.thrown(x, "14: no variable", Check.INDEX, () -> x.weightWith(0, 0));
        Check.thrown(x, "15: no variable", Check.INDEX, () -> x.chanceTop(0));
        Check.thrown(x, "16: no variable", Check.INDEX, () -> x.chanceBottom(0));
        Check.thrown(x, "18: no variable", Check.INDEX, () -> x.implied(0));
        Check.thrown(x, "17: no variable", Check.ARGUMENT, () -> x.projected(1));
    }

    private static void allAssignments() {
        for (int variables = 1; variables <= 10; variables++) {
            Watched x = Check.with(variables);
            dueModels("all of " + variables, x, 1L << variables);
            Check.due("13: all of " + variables, x.weight(), 1L << variables);
            x.addClause((1 << variables) - 1, (1 << variables) - 1);
            dueModels("always held", x, 1L << variables);
        }
    }

    private static void oneModel() {
        for (int model : new int[] {0, 1, 512, 511, 1022, 1023}) {
            Watched x = Check.with(10);
            for (int i = 0; i < 10; i++) {
                x.addParity(1 << i, model >> i & 1);
            }
            dueModels("by parities", x, 1L);
            Check.due("25: this one", x.first(), model);
            for (int i = 0; i < 10; i++) {
                x.drop(i);
                x.setEvidence(i, model >> i & 1);
            }
            dueModels("by evidence", x, 1L);
            Check.due("25: this one", x.first(), model);
        }
    }

    private static void noModels() {
        for (int variables : new int[] {1, 2, 9, 10}) {
            Watched x = Check.with(variables);
            int last = 1 << variables - 1;
            x.addClause(last, 0);
            x.addClause(0, last);
            dueModels("against each other", x, 0L);
            Check.due("13: none", x.weight(), 0L);
            Check.due("14: none", x.weightWith(variables - 1, 0) + x.weightWith(variables - 1, 1), 0L);
            x.setEvidence(variables - 1, 0);
            dueModels("against evidence", x, 0L);
            x.drop(0);
            dueModels("no more", x, 1L << variables - 1);
            x.setEvidence(variables - 1, 1);
            dueModels("against the other value", x, 0L);
        }
    }

    /** A constraint of which all variables have evidence belongs to no part, and has to hold all the same. */
    private static void settledByEvidence() {
        for (int variable : new int[] {0, 9}) {
            int bit = 1 << variable;
            Watched x = Check.with(10);
            x.addClause(bit, 0);
            x.setEvidence(variable, 1);
            dueModels("it holds", x, 512L);
            x.setEvidence(variable, 0);
            dueModels("it does not", x, 0L);
            x.addParity(bit, 1);
            x.drop(0);
            dueModels("the next does not", x, 0L);
            x.setEvidence(variable, 1);
            dueModels("the next holds", x, 512L);
            x.addBound(bit, 0, 0);
            dueModels("the third does not", x, 0L);
            x.drop(2);
            dueModels("the third is dropped", x, 512L);
        }
        Watched y = Check.with(2);
        y.setEvidence(0, 1);
        y.setEvidence(1, 1);
        dueModels("no part at all", y, 1L);
        y.addBound(3, 0, 1);
        dueModels("no part at all, and none holds", y, 0L);
        y.setEvidence(0, 0);
        dueModels("no part at all, and it holds", y, 1L);
    }

    private static void droppedAndSettled() {
        Watched x = Check.with(3);
        x.addParity(7, 1);
        x.addParity(7, 0);
        dueModels("both", x, 0L);
        x.drop(0);
        dueModels("one", x, 4L);
        x.drop(1);
        dueModels("none", x, 8L);
        x.addParity(7, 1);
        dueModels("told again", x, 4L);
        x.setEvidence(0, 1);
        x.setEvidence(1, 1);
        x.setEvidence(2, 1);
        dueModels("settled", x, 1L);
        x.setEvidence(2, 0);
        dueModels("settled otherwise", x, 0L);
        x.setEvidence(2, -1);
        dueModels("free again", x, 1L);
    }

    /** Each of 20 constraints takes one assignment away. */
    private static void twentyAtOnce() {
        Watched x = Check.with(10);
        for (int i = 0; i < 20; i++) {
            x.addClause(1023 & ~i, i);
            Check.due("11: " + i + " is out", x.models(), 1023L - i);
        }
        Check.due("12: 20 are out", x.modelsByAll(), 1004L);
        Check.due("13: 20 are out", x.weight(), 1004L);
        for (int i = 0; i < 20; i++) {
            x.drop(i);
            Check.due("12: " + i + " is in again", x.modelsByAll(), 1005L + i);
        }
        Check.due("11: all are in again", x.models(), 1024L);
    }

    private static Watched nines() {
        Watched x = Check.with(10);
        for (int i = 0; i < 10; i++) {
            x.setWeights(i, 9, 9);
        }
        return x;
    }

    private static void weights() {
        Watched x = nines();
        Check.due("13: as much as there may be", x.weight(), 1024L * NINES);
        Check.due("14: half", x.weightWith(0, 0), 512L * NINES);
        Check.due("14: half", x.weightWith(0, 1), 512L * NINES);
        Check.due("14: half", x.weightWith(9, 0), 512L * NINES);
        Check.due("14: half", x.weightWith(9, 1), 512L * NINES);
        x.addBound(1023, 10, 10);
        Check.due("13: the last one", x.weight(), NINES);
        Check.due("14: it has no false", x.weightWith(9, 0), 0L);
        Check.due("14: it has true", x.weightWith(9, 1), NINES);
        x.drop(0);
        x.addBound(1023, 0, 0);
        Check.due("13: the first one", x.weight(), NINES);
        x.setWeights(5, 0, 9);
        Check.due("13: of weight 0", x.weight(), 0L);
        Check.due("11: a model all the same", x.models(), 1L);
        x.setWeights(5, 1, 0);
        Check.due("13: at once", x.weight(), NINES / 9);
    }

    private static void weightsOfNothing() {
        Watched x = Check.with(10);
        x.setWeights(9, 0, 0);
        Check.due("13: all weigh nothing", x.weight(), 0L);
        dueModels("whatever the weights", x, 1024L);
        x.setWeights(9, 0, 1);
        Check.due("13: half weigh nothing", x.weight(), 512L);
        Check.due("14: that half", x.weightWith(9, 0), 0L);
        Check.due("14: half of the other one", x.weightWith(0, 0), 256L);
        x.setEvidence(9, 0);
        Check.due("13: just that half", x.weight(), 0L);
        Watched y = Check.with(1);
        y.setWeights(0, 3, 4);
        Check.due("13: both", y.weight(), 7L);
        y.addVariable();
        Check.due("13: a new variable", y.weight(), 14L);
        Check.due("14: a new variable", y.weightWith(1, 1), 7L);
    }

    private static void weightWithEach() {
        Watched x = Check.with(10);
        for (int i = 0; i < 10; i++) {
            x.setWeights(i, i, 9 - i);
        }
        long all = NINES;
        for (int i = 0; i < 10; i++) {
            Check.due("14: " + i + " false", x.weightWith(i, 0), all / 9 * i);
            Check.due("14: " + i + " true", x.weightWith(i, 1), all / 9 * (9 - i));
        }
        x.setEvidence(3, 1);
        Check.due("14: with its evidence", x.weightWith(3, 1), all / 9 * 6);
        Check.due("14: against its evidence", x.weightWith(3, 0), 0L);
        Check.due("14: of another one", x.weightWith(4, 0), all / 81 * 24);
    }

    private static void wrongWeightWith() {
        for (int variables : NUMBERS) {
            Watched x = Check.with(variables);
            for (int bad : Check.outside(0, variables - 1)) {
                Check.thrown(x, "14: variable " + bad + " of " + variables, Check.INDEX, () -> x.weightWith(bad, 1));
                Check.thrown(x, "14: variable and value", Check.INDEX, () -> x.weightWith(bad, 2));
                Check.thrown(x, "14: variable and value", Check.INDEX, () -> x.weightWith(bad, -1));
            }
        }
        Watched x = Check.with(10);
        for (int bad : Check.outside(0, 1)) {
            Check.thrown(x, "14: value " + bad, Check.ARGUMENT, () -> x.weightWith(0, bad));
            Check.thrown(x, "14: value " + bad, Check.ARGUMENT, () -> x.weightWith(9, bad));
        }
    }

    private static void dueChance(String what, Watched x, int variable, long top, long bottom) {
        Check.due("15: " + what, x.chanceTop(variable), top);
        Check.due("16: " + what, x.chanceBottom(variable), bottom);
    }

    /** Promise 15: "in lowest terms". */
    private static void chances() {
        Watched x = Check.with(2);
        for (int no = 1; no <= 9; no++) {
            for (int yes = 1; yes <= 9; yes++) {
                x.setWeights(1, no, yes);
                int divisor = 1;
                for (int i = 2; i <= 9; i++) {
                    divisor = no % i == 0 && yes % i == 0 ? i : divisor;
                }
                dueChance(no + " to " + yes, x, 1, yes / divisor, (no + yes) / divisor);
            }
        }
        dueChance("of the other one", x, 0, 1L, 2L);
        Watched y = nines();
        y.setWeights(9, 4, 5);
        dueChance("all divided by 9 to the ninth", y, 9, 5L, 9L);
        dueChance("all divided by half", y, 0, 1L, 2L);
        y.addClause(1023, 0);
        dueChance("without the first one", y, 0, 9L * 256 / 4, (9L * 512 - 4) / 4);
    }

    /** 17 to the ninth, and 17 to the tenth less 8 to the tenth, divided by 9, have no divisor in common. */
    private static void greatChance() {
        Watched x = Check.with(10);
        for (int i = 0; i < 10; i++) {
            x.setWeights(i, 8, 9);
        }
        x.addClause(1023, 0);
        for (int variable : new int[] {0, 9}) {
            dueChance("as great as they may be", x, variable, 118587876497L, 223880017625L);
        }
    }

    private static void chancesAtEnds() {
        Watched x = Check.with(10);
        x.setWeights(0, 7, 0);
        dueChance("never, by weight", x, 0, 0L, 1L);
        x.setWeights(0, 0, 7);
        dueChance("always, by weight", x, 0, 1L, 1L);
        x.setEvidence(9, 0);
        dueChance("never, by evidence", x, 9, 0L, 1L);
        x.setEvidence(9, 1);
        dueChance("always, by evidence", x, 9, 1L, 1L);
        x.addClause(0, 16);
        dueChance("never, by a clause", x, 4, 0L, 1L);
        x.drop(0);
        x.addClause(16, 0);
        dueChance("always, by a clause", x, 4, 1L, 1L);
    }

    /** "If the weight of all models together is 0": no models, or models that weigh nothing. */
    private static void noChance() {
        Watched x = Check.with(2);
        x.setWeights(1, 0, 0);
        Watched y = Check.with(2);
        y.addParity(2, 0);
        y.addParity(2, 1);
        Watched z = Check.with(2);
        z.setWeights(1, 0, 1);
        z.setEvidence(1, 0);
        for (Watched w : new Watched[] {x, y, z}) {
            for (int i = 0; i < 2; i++) {
                int variable = i;
                Check.thrown(w, "15: no weight", Check.NOTHING, () -> w.chanceTop(variable));
                Check.thrown(w, "16: no weight", Check.NOTHING, () -> w.chanceBottom(variable));
            }
            for (int bad : Check.outside(0, 1)) {
                Check.thrown(w, "15: variable and no weight", Check.INDEX, () -> w.chanceTop(bad));
                Check.thrown(w, "16: variable and no weight", Check.INDEX, () -> w.chanceBottom(bad));
            }
        }
    }

    private static void wrongChances() {
        for (int variables : NUMBERS) {
            Watched x = Check.with(variables);
            for (int bad : Check.outside(0, variables - 1)) {
                Check.thrown(x, "15: variable " + bad + " of " + variables, Check.INDEX, () -> x.chanceTop(bad));
                Check.thrown(x, "16: variable " + bad + " of " + variables, Check.INDEX, () -> x.chanceBottom(bad));
            }
        }
    }

    /** Promise 17: of the models with at most one true, and of all others with at least nine. */
    private static void projectedEach() {
        Watched x = Check.with(10);
        x.addBound(1023, 0, 1);
        int[] sets = {0, 1, 512, 513, 341, 1022, 511, 1023};
        for (int set : sets) {
            Check.due("17: few true, " + set, x.projected(set), Integer.bitCount(set) + 1L);
        }
        x.drop(0);
        x.addBound(1023, 9, 10);
        for (int set : sets) {
            Check.due("17: few false, " + set, x.projected(set), Integer.bitCount(set) + 1L);
        }
        x.setEvidence(9, 0);
        Check.due("17: one model", x.projected(1023), 1L);
        x.setEvidence(9, -1);
        x.setEvidence(0, 0);
        Check.due("17: one model", x.projected(1022), 1L);
    }

    private static void projectedOfAll() {
        for (int variables = 0; variables <= 10; variables++) {
            Watched x = Check.with(variables);
            int all = (1 << variables) - 1;
            Check.due("17: none of them", x.projected(0), 1L);
            Check.due("17: all of them", x.projected(all), 1L << variables);
            for (int i = 0; i < variables; i++) {
                Check.due("17: one alone", x.projected(1 << i), 2L);
                Check.due("17: all but one", x.projected(all ^ 1 << i), 1L << variables - 1);
            }
        }
        Watched y = Check.with(10);
        y.addParity(1023, 1);
        Check.due("17: all of half", y.projected(1023), 512L);
        Check.due("17: without the last", y.projected(511), 512L);
        Check.due("17: without the first", y.projected(1022), 512L);
        y.setWeights(3, 0, 0);
        Check.due("17: whatever the weights", y.projected(1023), 512L);
    }

    private static void projectedOfNone() {
        Watched x = Check.with(10);
        x.addParity(512, 0);
        x.setEvidence(9, 1);
        for (int set : new int[] {0, 1, 512, 1023}) {
            Check.due("17: without models, " + set, x.projected(set), 0L);
        }
        x.setEvidence(9, 0);
        Check.due("17: with models", x.projected(0), 1L);
        Check.due("17: with evidence", x.projected(512), 1L);
        Check.due("17: with evidence", x.projected(513), 2L);
    }

    private static void wrongProjected() {
        for (int variables : NUMBERS) {
            Watched x = Check.with(variables);
            for (int bad : Check.setsOutside(variables)) {
                Check.thrown(x, "17: set " + bad + " of " + variables, Check.ARGUMENT, () -> x.projected(bad));
            }
        }
        Watched y = Check.with(1);
        y.addParity(1, 0);
        y.addParity(1, 1);
        Check.thrown(y, "17: without models too", Check.ARGUMENT, () -> y.projected(2));
        Check.thrown(y, "17: without models too", Check.ARGUMENT, () -> y.projected(-1));
    }

    private static void implied() {
        Watched x = Check.with(10);
        x.addBound(1023, 10, 10);
        x.addBound(1023, 0, 0);
        x.addBound(1023, 9, 10);
        x.drop(1);
        dueImplied(x, "tttttttttt");
        x.drop(0);
        dueImplied(x, "----------");
        x.setEvidence(0, 0);
        dueImplied(x, "fttttttttt");
        x.setEvidence(0, -1);
        x.setEvidence(9, 0);
        dueImplied(x, "tttttttttf");
        x.setEvidence(9, -1);
        x.drop(2);
        x.addBound(1023, 0, 0);
        dueImplied(x, "ffffffffff");
        x.drop(3);
        x.addBound(1023, 0, 1);
        dueImplied(x, "----------");
        x.setWeights(0, 1, 0);
        x.setWeights(9, 0, 0);
        dueImplied(x, "----------");
        x.setEvidence(4, 1);
        dueImplied(x, "fffftfffff");
    }

    private static void dueImplied(Watched x, String want) {
        StringBuilder implied = new StringBuilder();
        for (int i = 0; i < want.length(); i++) {
            implied.append(x.implied(i));
        }
        Check.due("18: implied", implied.toString(), want);
    }

    private static void impliedWithoutModels() {
        Watched x = Check.with(10);
        x.addParity(3, 1);
        x.addParity(3, 0);
        dueImplied(x, "nnnnnnnnnn");
        x.setEvidence(0, 1);
        x.setEvidence(9, 0);
        dueImplied(x, "nnnnnnnnnn");
        x.drop(0);
        dueImplied(x, "tt-------f");
    }

    private static void wrongImplied() {
        for (int variables : NUMBERS) {
            Watched x = Check.with(variables);
            for (int bad : Check.outside(0, variables - 1)) {
                Check.thrown(x, "18: variable " + bad + " of " + variables, Check.INDEX, () -> x.implied(bad));
            }
        }
        Watched y = Check.with(1);
        y.addParity(1, 0);
        y.addParity(1, 1);
        Check.thrown(y, "18: without models too", Check.INDEX, () -> y.implied(1));
        Check.thrown(y, "18: without models too", Check.INDEX, () -> y.implied(-1));
    }
}
