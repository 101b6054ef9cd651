/** Promises 39 and 40 sentence by sentence: no models, all, no variables, ten, and no weight. */
public final class MeanEdgesTest {
    public static void main(String[] args) {
        withoutVariables();
        densityOfAllAndNone();
        densityOfOne();
        densityOfEach();
        meanOfAll();
        meanOfOne();
        meanByWeight();
        meanOfGreatWeights();
        noMean();
        Check.end();
    }

    private static void withoutVariables() {
        Watched x = new Watched();
        Check.due("39: of nothing", x.density(), 1.0f);
        Check.due("40: of nothing", x.meanTrue(), 0.0);
    }

    private static void densityOfAllAndNone() {
        for (int variables = 1; variables <= 10; variables++) {
            Watched x = Check.with(variables);
            Check.due("39: all", x.density(), 1.0f);
            x.setWeights(0, 0, 0);
            Check.due("39: whatever the weights", x.density(), 1.0f);
            x.addParity(1, 0);
            Check.due("39: half", x.density(), 0.5f);
            x.setEvidence(0, 1);
            Check.due("39: none", x.density(), 0.0f);
            x.setEvidence(0, 0);
            Check.due("39: half", x.density(), 0.5f);
        }
    }

    /** By all assignments, with those against evidence too. */
    private static void densityOfOne() {
        Watched x = Check.with(10);
        for (int i = 0; i < 10; i++) {
            Check.due("39: " + i + " have evidence", x.density(), 1.0f / (1 << i));
            x.setEvidence(i, i % 2);
        }
        Check.due("39: one", x.density(), 1.0f / 1024.0f);
        x.addParity(1023, 0);
        Check.due("39: none", x.density(), 0.0f);
        Watched y = Check.with(10);
        y.addClause(1023, 0);
        Check.due("39: all but one", y.density(), 1023.0f / 1024.0f);
    }

    private static void densityOfEach() {
        int[] choices = {1, 10, 45, 120, 210, 252, 210, 120, 45, 10, 1};
        Watched x = Check.with(10);
        for (int least = 0; least <= 10; least++) {
            x.addBound(1023, least, least);
            Check.due("39: " + least, x.density(), choices[least] / 1024.0f);
            x.drop(least);
        }
        Watched y = Check.with(1);
        y.addClause(1, 0);
        y.addVariable();
        y.addClause(2, 1);
        Check.due("39: one of four", y.density(), 0.25f);
        y.addVariable();
        Check.due("39: two of eight", y.density(), 0.25f);
        y.addClause(4, 3);
        Check.due("39: one of eight", y.density(), 0.125f);
    }

    private static void meanOfAll() {
        Watched x = new Watched();
        for (int variables = 1; variables <= 10; variables++) {
            x.addVariable();
            Check.due("40: half of " + variables, x.meanTrue(), variables / 2.0);
        }
        x.addClause(1023, 0);
        Check.due("40: all but one", x.meanTrue(), 5120.0 / 1023.0);
        x.addClause(0, 1023);
        Check.due("40: all but two", x.meanTrue(), 5110.0 / 1022.0);
        x.addParity(1023, 1);
        Check.due("40: odd ones", x.meanTrue(), 5.0);
    }

    private static void meanOfOne() {
        for (int most = 0; most <= 10; most++) {
            Watched x = Check.with(10);
            x.addBound(1023, most, most);
            Check.due("40: each has " + most, x.meanTrue(), (double) most);
        }
        Watched x = Check.with(10);
        x.setEvidence(9, 1);
        Check.due("40: with evidence", x.meanTrue(), 5.5);
        x.setEvidence(9, 0);
        Check.due("40: with evidence", x.meanTrue(), 4.5);
    }

    private static void meanByWeight() {
        Watched x = Check.with(1);
        for (int no = 0; no <= 9; no++) {
            for (int yes = no == 0 ? 1 : 0; yes <= 9; yes++) {
                x.setWeights(0, no, yes);
                Check.due("40: " + no + " to " + yes, x.meanTrue(), (double) yes / (double) (no + yes));
            }
        }
        Watched y = Check.with(10);
        y.addBound(1023, 9, 10);
        y.setWeights(9, 3, 2);
        // All weigh 2, and 2 too if one of 0 to 8 is false, but 3 if 9 is.
        Check.due("40: by weight", y.meanTrue(), (10.0 * 2 + 9.0 * (9 * 2 + 3)) / (2 + 9 * 2 + 3));
        y.setWeights(9, 0, 2);
        Check.due("40: some weigh nothing", y.meanTrue(), (10.0 * 2 + 9.0 * 9 * 2) / (2 + 9 * 2));
    }

    private static void meanOfGreatWeights() {
        Watched x = Check.with(10);
        for (int i = 0; i < 10; i++) {
            x.setWeights(i, 9, 9);
        }
        Check.due("40: all of them", x.meanTrue(), 5.0);
        x.addClause(1023, 0);
        Check.due("40: all but one", x.meanTrue(), 5120.0 * 3486784401.0 / (1023.0 * 3486784401.0));
        for (int i = 0; i < 10; i++) {
            x.setWeights(i, 8, 9);
        }
        // Each is true with 9 by 17 to the ninth; all together weigh 17 to the tenth, less 8 to the tenth.
        Check.due("40: far more than an int", x.meanTrue(), 10672908884730.0 / 2014920158625.0);
    }

    /** "If the weight of all models together is 0". */
    private static void noMean() {
        for (int variables : new int[] {1, 10}) {
            Watched x = Check.with(variables);
            x.setWeights(variables - 1, 0, 0);
            Check.thrown(x, "40: all weigh nothing", Check.NOTHING, x::meanTrue);
            x.setWeights(variables - 1, 1, 0);
            Check.due("40: half weigh nothing", x.meanTrue(), (variables - 1) / 2.0);
            x.setEvidence(variables - 1, 1);
            Check.thrown(x, "40: the other half", Check.NOTHING, x::meanTrue);
            Check.due("39: models all the same", x.density(), 0.5f);
            x.setWeights(variables - 1, 1, 1);
            x.addParity(1 << variables - 1, 0);
            Check.thrown(x, "40: no models", Check.NOTHING, x::meanTrue);
            x.drop(0);
            Check.due("40: models again", x.meanTrue(), (variables - 1) / 2.0 + 1);
        }
    }
}
