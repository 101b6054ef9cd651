/** Promises 22 to 25 sentence by sentence: the first and the last rank, number and model, and none. */
public final class ModelEdgesTest {
    private static final long NINES = 3486784401L;

    public static void main(String[] args) {
        withoutVariables();
        ranksOfAll();
        ranksByWeight();
        asManyAsRanks();
        oneFewerThanRanks();
        fewModels();
        tiesAndNothing();
        wrongRanks();
        weightOfEach();
        wrongWeightOf();
        luckyOfAll();
        luckyOfNines();
        luckyAtEdges();
        luckyOfNothing();
        wrongLuck();
        first();
        noWeight();
        noFirst();
        Check.end();
    }

    /** The assignment of ten variables ahead of which as many come as the number tells: its bits turned round. */
    private static int coming(int number) {
        int assignment = 0;
        for (int i = 0; i < 10; i++) {
            assignment |= (number >> i & 1) << 9 - i;
        }
        return assignment;
    }

    private static void withoutVariables() {
        Watched x = new Watched();
        Check.due("22: the best of one", x.best(0), 0);
        Check.due("23: of nothing", x.weightOf(0), 1L);
        Check.due("24: of one", x.lucky(0L), 0);
        Check.due("25: of one", x.first(), 0);
        Check.thrown(x, "22: no second", Check.NOTHING, () -> x.best(1));
        Check.thrown(x, "22: no last", Check.NOTHING, () -> x.best(20));
        Check.thrown(x, "22: no such rank", Check.ARGUMENT, () -> x.best(21));
        Check.thrown(x, "22: no such rank", Check.ARGUMENT, () -> x.best(-1));
        Check.thrown(x, "23: no variable", Check.ARGUMENT, () -> x.weightOf(1));
        Check.thrown(x, "24: the sum", Check.ARGUMENT, () -> x.lucky(1L));
        Check.thrown(x, "24: under 0", Check.ARGUMENT, () -> x.lucky(-1L));
    }

    /** "The same and comes ahead". */
    private static void ranksOfAll() {
        Watched x = Check.with(10);
        for (int rank = 0; rank <= 20; rank++) {
            Check.due("22: all alike, rank " + rank, x.best(rank), coming(rank));
        }
        for (int i = 0; i < 10; i++) {
            x.setWeights(i, 9, 9);
        }
        for (int rank = 20; rank >= 0; rank--) {
            Check.due("22: all alike, rank " + rank, x.best(rank), coming(rank));
        }
        x.setWeights(4, 0, 0);
        Check.due("22: all weigh nothing", x.best(0), 0);
        Check.due("22: all weigh nothing", x.best(20), coming(20));
    }

    /** True weighs more: all, then all but one, then all but two; each time false at the lowest comes ahead. */
    private static void ranksByWeight() {
        Watched x = Check.with(10);
        for (int i = 0; i < 10; i++) {
            x.setWeights(i, 1, 2);
        }
        Check.due("22: all true", x.best(0), 1023);
        for (int i = 0; i < 10; i++) {
            Check.due("22: all but " + i, x.best(i + 1), 1023 ^ 1 << i);
        }
        for (int i = 1; i < 10; i++) {
            Check.due("22: all but 0 and " + i, x.best(i + 10), 1023 ^ 1 ^ 1 << i);
        }
        Check.due("22: all but 1 and 2, the last rank", x.best(20), 1023 ^ 6);
        x.setWeights(9, 2, 1);
        Check.due("22: the best has 9 false", x.best(0), 511);
        Check.due("22: then 0 false too", x.best(1), 510);
        Check.due("22: then 9 true", x.best(10), 1023);
        x.setWeights(0, 9, 8);
        Check.due("22: a little more", x.best(0) * 1000 + x.best(1), 510511);
    }

    private static void asManyAsRanks() {
        Watched x = Check.with(7);
        x.addBound(127, 2, 2);
        Check.due("11: as many as ranks", x.models(), 21L);
        Check.due("22: the first rank", x.best(0), 32 + 64);
        Check.due("22: the second rank", x.best(1), 16 + 64);
        Check.due("22: the last but one", x.best(19), 1 + 4);
        Check.due("22: the last rank", x.best(20), 1 + 2);
        x.setWeights(0, 1, 2);
        Check.due("22: the last comes to be fifth", x.best(5), 1 + 2);
        Check.due("22: the last rank", x.best(20), 2 + 4);
        Check.thrown(x, "22: no such rank", Check.ARGUMENT, () -> x.best(21));
    }

    private static void oneFewerThanRanks() {
        Watched x = Check.with(6);
        x.addBound(63, 3, 3);
        Check.due("11: one fewer than ranks", x.models(), 20L);
        Check.due("22: the last model", x.best(19), 7);
        Check.thrown(x, "22: the last rank", Check.NOTHING, () -> x.best(20));
        Check.thrown(x, "22: no such rank", Check.ARGUMENT, () -> x.best(21));
    }

    private static void fewModels() {
        for (int models = 1; models <= 10; models++) {
            int count = models;
            Watched x = Check.with(10);
            x.addBound(1023, 9, 9);
            for (int i = 0; i < 10 - count; i++) {
                x.addClause(1 << i, 0);
            }
            for (int rank = 0; rank < count; rank++) {
                Check.due("22: rank " + rank + " of " + count, x.best(rank), 1023 ^ 1 << 10 - count + rank);
            }
            Check.thrown(x, "22: rank " + count, Check.NOTHING, () -> x.best(count));
            Check.thrown(x, "22: the last rank", Check.NOTHING, () -> x.best(20));
        }
        Watched y = Check.with(10);
        y.addBound(1023, 10, 10);
        y.setEvidence(9, 0);
        Check.thrown(y, "22: no models", Check.NOTHING, () -> y.best(0));
        Check.thrown(y, "22: no models", Check.NOTHING, () -> y.best(20));
        Check.thrown(y, "22: no models and no such rank", Check.ARGUMENT, () -> y.best(21));
        Check.thrown(y, "22: no models and no such rank", Check.ARGUMENT, () -> y.best(-1));
    }

    /** A model that weighs nothing is a model: it comes last. */
    private static void tiesAndNothing() {
        Watched x = Check.with(3);
        x.setWeights(0, 0, 1);
        x.setWeights(2, 2, 3);
        int[] due = {5, 7, 1, 3, 0, 4, 2, 6};
        for (int rank = 0; rank < 8; rank++) {
            Check.due("22: rank " + rank, x.best(rank), due[rank]);
        }
        Check.thrown(x, "22: no ninth", Check.NOTHING, () -> x.best(8));
        x.setEvidence(0, 0);
        Check.due("22: they alone", x.best(0) * 10 + x.best(3), 6);
        Check.thrown(x, "22: no fifth", Check.NOTHING, () -> x.best(4));
    }

    private static void wrongRanks() {
        for (int variables : new int[] {1, 10}) {
            Watched x = Check.with(variables);
            for (int bad : Check.outside(0, 20)) {
                Check.thrown(x, "22: rank " + bad, Check.ARGUMENT, () -> x.best(bad));
            }
        }
    }

    /** Promise 23: "a model or not". */
    private static void weightOfEach() {
        Watched x = Check.with(10);
        Check.due("23: at first", x.weightOf(0) * 10 + x.weightOf(1023), 11L);
        for (int i = 0; i < 10; i++) {
            x.setWeights(i, 9, 9);
        }
        Check.due("23: all false", x.weightOf(0), NINES);
        Check.due("23: all true", x.weightOf(1023), NINES);
        x.setWeights(0, 8, 0);
        x.setWeights(9, 7, 1);
        Check.due("23: all false", x.weightOf(0), NINES / 81 * 56);
        Check.due("23: the last true", x.weightOf(512), NINES / 81 * 8);
        Check.due("23: the first true", x.weightOf(1), 0L);
        x.setEvidence(0, 1);
        x.addParity(512, 1);
        x.addParity(512, 0);
        Check.due("23: against evidence", x.weightOf(0), NINES / 81 * 56);
        Check.due("23: with evidence", x.weightOf(1023), 0L);
        for (int i = 0; i < 10; i++) {
            x.setWeights(i, i, 9 - i);
        }
        Check.due("23: 0 true", x.weightOf(1), 9L * 362880);
        Check.due("23: 9 false", x.weightOf(511), 9L * 362880);
        Check.due("23: 0 false", x.weightOf(0), 0L);
        Watched y = Check.with(4);
        int[][] weights = {{2, 3}, {5, 7}, {1, 4}, {9, 8}};
        for (int i = 0; i < 4; i++) {
            y.setWeights(i, weights[i][0], weights[i][1]);
        }
        for (int assignment = 0; assignment < 16; assignment++) {
            long due = 1;
            for (int i = 0; i < 4; i++) {
                due *= weights[i][assignment >> i & 1];
            }
            Check.due("23: " + assignment, y.weightOf(assignment), due);
        }
    }

    private static void wrongWeightOf() {
        for (int variables : new int[] {0, 1, 2, 9, 10}) {
            Watched x = Check.with(variables);
            for (int bad : Check.setsOutside(variables)) {
                Check.thrown(x, "23: assignment " + bad + " of " + variables, Check.ARGUMENT, () -> x.weightOf(bad));
            }
        }
        Watched y = Check.with(1);
        y.addVariable();
        Check.due("23: it is there now", y.weightOf(2), 1L);
    }

    private static void luckyOfAll() {
        Watched x = Check.with(10);
        for (int luck : new int[] {0, 1, 2, 3, 511, 512, 513, 1021, 1022, 1023}) {
            Check.due("24: lucky(" + luck + ")", x.lucky(luck), coming(luck));
        }
        Check.thrown(x, "24: the sum", Check.ARGUMENT, () -> x.lucky(1024L));
    }

    private static void luckyOfNines() {
        Watched x = Check.with(10);
        for (int i = 0; i < 10; i++) {
            x.setWeights(i, 9, 9);
        }
        for (int number : new int[] {0, 1, 2, 511, 512, 1022, 1023}) {
            Check.due("24: from", x.lucky(number * NINES), coming(number));
            Check.due("24: to", x.lucky((number + 1) * NINES - 1), coming(number));
        }
        Check.due("24: 2 to the 32", x.lucky(1L << 32), coming(1));
        Check.thrown(x, "24: the sum", Check.ARGUMENT, () -> x.lucky(1024 * NINES));
        Check.thrown(x, "24: far more", Check.ARGUMENT, () -> x.lucky(1024 * NINES + (1L << 42)));
        Check.thrown(x, "24: under 0", Check.ARGUMENT, () -> x.lucky(-1024 * NINES));
    }

    /** "It is the first one with which the sum is greater than the number": one of weight 0 never is. */
    private static void luckyAtEdges() {
        Watched x = Check.with(2);
        x.setWeights(0, 2, 3);
        x.setWeights(1, 0, 1);
        int[] due = {2, 2, 3, 3, 3};
        for (int luck = 0; luck < 5; luck++) {
            Check.due("24: lucky(" + luck + "), false weighs nothing", x.lucky(luck), due[luck]);
        }
        Check.thrown(x, "24: the sum", Check.ARGUMENT, () -> x.lucky(5L));
        Watched y = Check.with(2);
        y.setWeights(0, 2, 3);
        y.setWeights(1, 1, 0);
        int[] dueOfY = {0, 0, 1, 1, 1};
        for (int luck = 0; luck < 5; luck++) {
            Check.due("24: lucky(" + luck + "), true weighs nothing", y.lucky(luck), dueOfY[luck]);
        }
        Check.thrown(y, "24: the sum", Check.ARGUMENT, () -> y.lucky(5L));
        y.setEvidence(0, 1);
        Check.due("24: of those with 0 true", y.lucky(0L) * 10 + y.lucky(2L), 11);
        Check.thrown(y, "24: their sum", Check.ARGUMENT, () -> y.lucky(3L));
        y.addClause(2, 0);
        Check.thrown(y, "24: they weigh nothing", Check.ARGUMENT, () -> y.lucky(0L));
    }

    private static void luckyOfNothing() {
        Watched x = Check.with(10);
        x.setWeights(9, 0, 0);
        Watched y = Check.with(10);
        y.addParity(1, 0);
        y.addParity(1, 1);
        for (Watched z : new Watched[] {x, y}) {
            for (long bad : new long[] {0, 1, -1, 1023, 1024}) {
                Check.thrown(z, "24: no weight, " + bad, Check.ARGUMENT, () -> z.lucky(bad));
            }
        }
    }

    private static void wrongLuck() {
        Watched x = Check.with(3);
        x.setWeights(2, 3, 4);
        Check.due("24: the last", x.lucky(27L), 7);
        long[] all = {
            -1, 28, -2, 29, 1L << 31, 1L << 32, (1L << 32) + 1, -(1L << 32), 1L << 40, Long.MAX_VALUE, Long.MIN_VALUE,
            Long.MIN_VALUE + 1, Integer.MAX_VALUE, Integer.MIN_VALUE,
        };
        for (long bad : all) {
            Check.thrown(x, "24: " + bad, Check.ARGUMENT, () -> x.lucky(bad));
        }
    }

    private static void first() {
        Watched x = Check.with(10);
        Check.due("25: of all", x.first(), 0);
        x.addClause(1023, 0);
        Check.due("25: the last is true", x.first(), 512);
        x.addClause(511, 512);
        Check.due("25: the last but one is true", x.first(), 256);
        x.addBound(1023, 10, 10);
        Check.due("25: all are true", x.first(), 1023);
        x.drop(2);
        x.addBound(1023, 1, 1);
        x.addClause(3, 0);
        Check.due("25: 1 ahead of 0", x.first(), 2);
        x.setWeights(0, 0, 9);
        x.setWeights(1, 9, 0);
        Check.due("25: whatever the weights", x.first(), 2);
        x.setEvidence(1, 0);
        Check.due("25: 0 alone", x.first(), 1);
    }

    /** Models that weigh nothing, all of them, are models all the same. */
    private static void noWeight() {
        for (int variable = 0; variable < 3; variable++) {
            Watched x = Check.with(3);
            x.addClause(7, 0);
            x.setWeights(variable, 0, 0);
            Check.due("25: no weight", x.first(), 4);
            for (int rank = 0; rank < 7; rank++) {
                Check.due("22: no weight", x.best(rank), new int[] {4, 2, 6, 1, 5, 3, 7}[rank]);
            }
            Check.thrown(x, "22: no weight", Check.NOTHING, () -> x.best(7));
            Check.due("23: no weight", x.weightOf(7), 0L);
            Check.due("11: no weight", x.models() * 10 + x.modelsByAll(), 77L);
            Check.due("17: no weight", x.projected(7), 7L);
            Check.due("18: no weight", x.implied(variable), '-');
            Check.due("21: no weight", x.modelsOfPart(variable), 7L);
            Check.due("26: no weight", x.nodes(), 3);
            Check.due("28: no weight", x.ways(), 3L);
            Check.due("31: no weight", x.keep(0), 3);
            Check.due("36: no weight", x.modelsOf(0), 7L);
            Check.due("39: no weight", x.density(), 7.0f / 8.0f);
        }
    }

    private static void noFirst() {
        for (int variables : new int[] {1, 10}) {
            Watched x = Check.with(variables);
            int last = 1 << variables - 1;
            x.addBound(last, 2, 2);
            Check.thrown(x, "25: no models", Check.NOTHING, x::first);
            x.drop(0);
            x.addParity(last, 1);
            Check.due("25: the last is true", x.first(), last);
            x.setEvidence(variables - 1, 0);
            Check.thrown(x, "25: against evidence", Check.NOTHING, x::first);
        }
    }
}
