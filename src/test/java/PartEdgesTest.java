/** Promises 19 to 21 sentence by sentence, and the parts that are kept when they come again. */
public final class PartEdgesTest {
    private static final int[] NUMBERS = {0, 1, 2, 9, 10};

    public static void main(String[] args) {
        noParts();
        eachItsOwn();
        allInOne();
        chain();
        evidenceJoinsNothing();
        settledJoins();
        everyKindJoins();
        names();
        modelsOfPart();
        constraintsWithoutPart();
        keptWithOtherEvidence();
        keptWithAsMuchEvidence();
        keptWithOtherConstraints();
        keptWithOtherVariables();
        everyEvidence();
        wrongVariables();
        variablesWithEvidence();
        Check.end();
    }

    /** The names of the parts of all variables, '-' for one with evidence. */
    private static String names(Watched x, int variables) {
        StringBuilder names = new StringBuilder();
        for (int i = 0; i < variables; i++) {
            int variable = i;
            Object name = Check.answerOf(() -> x.partOf(variable));
            names.append(name == Check.NOTHING ? "-" : name);
        }
        return names.toString();
    }

    private static void dueParts(String what, Watched x, int variables, int parts, String names) {
        Check.due("19: " + what, x.parts(), parts);
        Check.due("20: " + what, names(x, variables), names);
    }

    private static void noParts() {
        Watched x = new Watched();
        Check.due("19: no variables", x.parts(), 0);
        Check.thrown(x, "20: no variables", Check.INDEX, () -> x.partOf(0));
        Check.thrown(x, "21: no variables", Check.INDEX, () -> x.modelsOfPart(0));
        for (int variables : new int[] {1, 10}) {
            Watched y = Check.with(variables);
            y.addBound((1 << variables) - 1, 0, 10);
            for (int i = 0; i < variables; i++) {
                Check.due("19: one is left", y.parts(), 1);
                y.setEvidence(i, i % 2);
            }
            Check.due("19: all have evidence", y.parts(), 0);
            y.setEvidence(variables - 1, -1);
            Check.due("19: the last has none any more", y.parts(), 1);
        }
    }

    private static void eachItsOwn() {
        Watched x = Check.with(10);
        dueParts("joined by nothing", x, 10, 10, "0123456789");
        for (int i = 0; i < 10; i++) {
            x.addParity(1 << i, 0);
        }
        dueParts("joined to itself alone", x, 10, 10, "0123456789");
        x.addClause(1023, 1023);
        dueParts("all", x, 10, 1, "0000000000");
        x.drop(10);
        dueParts("dropped", x, 10, 10, "0123456789");
        Watched y = Check.with(1);
        dueParts("the only one", y, 1, 1, "0");
    }

    private static void allInOne() {
        Watched x = Check.with(10);
        x.addBound(1023, 0, 10);
        dueParts("all", x, 10, 1, "0000000000");
        Check.due("21: all", x.modelsOfPart(0) * 10000 + x.modelsOfPart(9), 10241024L);
        for (int i = 0; i < 9; i++) {
            x.setEvidence(i, 1);
            Check.due("20: the lowest that is left", x.partOf(9), i + 1);
            Check.due("21: those that are left", x.modelsOfPart(9), 512L >> i);
        }
        dueParts("the last", x, 10, 1, "---------9");
    }

    /** "With all that are joined to it, and with those that are joined to these, and so on". */
    private static void chain() {
        int[][] chains = {{0, 1, 2, 3, 4, 5, 6, 7, 8, 9}, {9, 8, 7, 6, 5, 4, 3, 2, 1, 0}, {5, 0, 9, 1, 8, 2, 7, 3, 6, 4}};
        for (int[] chain : chains) {
            for (boolean backward : new boolean[] {false, true}) {
                Watched x = Check.with(10);
                for (int i = 0; i < 9; i++) {
                    int link = backward ? 8 - i : i;
                    x.addParity(1 << chain[link] | 1 << chain[link + 1], 1);
                }
                dueParts("a chain", x, 10, 1, "0000000000");
                Check.due("21: a chain", x.modelsOfPart(chain[0]) * 10 + x.modelsOfPart(chain[9]), 22L);
                x.drop(4);
                Check.due("19: a chain cut", x.parts(), 2);
                Check.due("20: a chain cut", x.partOf(chain[0]) == x.partOf(chain[9]), false);
                Check.due("11: a chain cut", x.models(), 4L);
            }
        }
        Watched y = Check.with(6);
        y.addClause(1 | 32, 0);
        y.addClause(2 | 16, 0);
        dueParts("two pairs", y, 6, 4, "012310");
        y.addClause(0, 16 | 32);
        dueParts("the pairs joined", y, 6, 3, "002300");
        Check.due("21: the pairs joined", y.modelsOfPart(1), 5L);
    }

    private static void evidenceJoinsNothing() {
        Watched x = Check.with(3);
        x.addClause(3, 0);
        x.addClause(6, 0);
        dueParts("by 1", x, 3, 1, "000");
        for (int value = 0; value <= 1; value++) {
            x.setEvidence(1, value);
            dueParts("1 has evidence", x, 3, 2, "0-2");
            Check.due("21: 0", x.modelsOfPart(0), 1L + value);
            Check.due("21: 2", x.modelsOfPart(2), 1L + value);
            Check.due("11: both", x.models(), (1L + value) * (1L + value));
        }
        x.setEvidence(1, -1);
        dueParts("by 1 again", x, 3, 1, "000");
        Check.due("21: all", x.modelsOfPart(2), 5L);
    }

    /** "Also if evidence has settled it". */
    private static void settledJoins() {
        Watched x = Check.with(4);
        x.addClause(15, 0);
        x.setEvidence(0, 1);
        dueParts("a clause that holds", x, 4, 1, "-111");
        Check.due("21: all choices", x.modelsOfPart(3), 8L);
        x.setEvidence(1, 1);
        dueParts("and again", x, 4, 1, "--22");
        x.drop(0);
        dueParts("dropped", x, 4, 2, "--23");
        x.addBound(7 | 8, 0, 1);
        dueParts("a bound that fails", x, 4, 1, "--22");
        Check.due("21: no choice", x.modelsOfPart(2) + x.modelsOfPart(3), 0L);
        Check.due("11: none", x.models() + x.modelsByAll(), 0L);
    }

    private static void everyKindJoins() {
        for (int kind = 0; kind < 6; kind++) {
            Watched x = Check.with(10);
            if (kind == 0) {
                x.addClause(513, 0);
            } else if (kind == 1) {
                x.addClause(0, 513);
            } else if (kind == 2) {
                x.addClause(1, 512);
            } else if (kind == 3) {
                x.addClause(512, 1);
            } else if (kind == 4) {
                x.addParity(513, 1);
            } else {
                x.addBound(513, 1, 2);
            }
            dueParts("kind " + kind, x, 10, 9, "0123456780");
            Check.due("21: kind " + kind, x.modelsOfPart(0), kind == 4 ? 2L : 3L);
            Check.due("21: kind " + kind, x.modelsOfPart(9), kind == 4 ? 2L : 3L);
            Check.due("21: another one", x.modelsOfPart(8), 2L);
            x.drop(0);
            dueParts("dropped kind " + kind, x, 10, 10, "0123456789");
        }
    }

    /** "Its name is its lowest variable". */
    private static void names() {
        Watched x = Check.with(10);
        x.addBound(512 | 256, 0, 10);
        dueParts("the last two", x, 10, 9, "0123456788");
        x.addParity(1 | 512, 0);
        dueParts("with the first", x, 10, 8, "0123456700");
        x.setEvidence(0, 0);
        dueParts("the first has evidence", x, 10, 8, "-123456788");
        x.setEvidence(8, 0);
        dueParts("8 too", x, 10, 8, "-1234567-9");
        x.exchange(0, 9);
        x.setWeights(9, 0, 0);
        dueParts("whatever the order and the weights", x, 10, 8, "-1234567-9");
        Check.due("21: by evidence", x.modelsOfPart(9), 1L);
    }

    private static void modelsOfPart() {
        Watched x = Check.with(10);
        for (int i = 0; i < 10; i++) {
            Check.due("21: free", x.modelsOfPart(i), 2L);
        }
        x.addParity(1, 1);
        x.addParity(512, 0);
        Check.due("21: forced", x.modelsOfPart(0) * 10 + x.modelsOfPart(9), 11L);
        x.addParity(512, 1);
        Check.due("21: none", x.modelsOfPart(9), 0L);
        Check.due("21: the others have theirs", x.modelsOfPart(0) * 10 + x.modelsOfPart(8), 12L);
        Check.due("11: none", x.models() + x.modelsByAll(), 0L);
        x.drop(2);
        x.setWeights(8, 0, 0);
        Check.due("21: whatever the weights", x.modelsOfPart(8), 2L);
        Check.due("11: whatever the weights", x.models(), 256L);
    }

    private static void constraintsWithoutPart() {
        Watched x = Check.with(3);
        x.addClause(3, 0);
        x.setEvidence(0, 0);
        x.setEvidence(1, 0);
        Check.due("21: a constraint of others that fails", x.modelsOfPart(2), 2L);
        Check.due("11: it fails", x.models(), 0L);
        x.addClause(7, 0);
        Check.due("21: a constraint of its own", x.modelsOfPart(2), 1L);
        x.setEvidence(1, 1);
        Check.due("21: settled", x.modelsOfPart(2), 2L);
        Check.due("11: settled", x.models(), 2L);
    }

    private static void dueCounts(String what, Watched x, int variable, long want) {
        Check.due("21: " + what, x.modelsOfPart(variable), want);
        Check.due("11: " + what, x.models(), want);
        Check.due("12: " + what, x.modelsByAll(), want);
    }

    /** A part that comes again with other evidence beside it has another count. */
    private static void keptWithOtherEvidence() {
        Watched x = Check.with(3);
        x.addBound(7, 2, 2);
        int[] turns = {0, 1, 0, 1, 1, 0, -1, 0, -1, 1};
        for (int value : turns) {
            x.setEvidence(2, value);
            dueCounts("2 is " + value, x, 0, value == 0 ? 1L : value == 1 ? 2L : 3L);
        }
        Watched y = Check.with(4);
        y.addBound(15, 2, 2);
        y.setEvidence(2, 1);
        y.setEvidence(3, 0);
        dueCounts("2 is true", y, 0, 2L);
        y.setEvidence(2, 0);
        y.setEvidence(3, 1);
        dueCounts("3 is true", y, 0, 2L);
        y.addClause(3, 4);
        dueCounts("2 is false", y, 0, 2L);
        y.setEvidence(3, 0);
        dueCounts("none is true", y, 0, 1L);
        y.setEvidence(2, 1);
        y.setEvidence(3, 1);
        dueCounts("against the clause", y, 0, 0L);
    }

    /** As many of the others are true as before, but not the same ones. */
    private static void keptWithAsMuchEvidence() {
        Watched x = Check.with(4);
        x.addClause(1 | 4, 0);
        x.addBound(1 | 2 | 8, 0, 1);
        x.setEvidence(2, 1);
        x.setEvidence(3, 0);
        dueCounts("2 is true", x, 1, 3L);
        x.setEvidence(2, 0);
        x.setEvidence(3, 1);
        dueCounts("3 is true", x, 1, 0L);
        x.setEvidence(3, 0);
        dueCounts("none is true", x, 1, 1L);
        x.setEvidence(3, 1);
        x.setEvidence(2, 1);
        dueCounts("both are true", x, 1, 1L);
        x.setEvidence(3, 0);
        dueCounts("2 is true again", x, 1, 3L);
    }

    private static void keptWithOtherConstraints() {
        Watched x = Check.with(2);
        x.addBound(3, 0, 0);
        dueCounts("0", x, 0, 1L);
        x.drop(0);
        x.addBound(3, 1, 1);
        dueCounts("1", x, 0, 2L);
        x.addBound(3, 1, 2);
        dueCounts("still 1", x, 0, 2L);
        x.drop(1);
        dueCounts("1 or 2", x, 0, 3L);
        x.addClause(1, 2);
        dueCounts("and a clause", x, 1, 2L);
        x.drop(2);
        dueCounts("the clause alone", x, 1, 3L);
        x.addClause(2, 1);
        dueCounts("two clauses", x, 0, 2L);
        x.drop(3);
        dueCounts("the second alone", x, 1, 3L);
        x.addParity(3, 1);
        dueCounts("and a parity", x, 0, 1L);
        x.drop(4);
        dueCounts("the parity alone", x, 0, 2L);
        x.drop(5);
        Check.due("21: nothing", x.modelsOfPart(0), 2L);
        Check.due("11: nothing", x.models(), 4L);
    }

    /** A part of the same name and of the same number of variables is another one. */
    private static void keptWithOtherVariables() {
        Watched x = Check.with(4);
        x.addClause(1 | 4, 0);
        x.addClause(2, 8);
        x.addBound(1 | 2 | 4 | 8, 1, 2);
        x.setEvidence(3, 0);
        dueCounts("0, 1, 2", x, 0, 5L);
        x.setEvidence(3, -1);
        x.setEvidence(1, 0);
        dueCounts("0, 2, 3", x, 0, 3L);
        x.setEvidence(1, -1);
        x.setEvidence(2, 0);
        dueCounts("0, 1, 3", x, 0, 2L);
        x.setEvidence(2, -1);
        x.setEvidence(0, 0);
        dueCounts("1, 2, 3", x, 1, 2L);
        x.setEvidence(0, -1);
        x.setEvidence(3, 0);
        dueCounts("0, 1, 2 again", x, 0, 5L);
        x.setEvidence(3, 1);
        dueCounts("0, 1, 2 with 3", x, 0, 0L);
        Watched y = Check.with(1);
        y.addClause(1, 1);
        dueCounts("one variable", y, 0, 2L);
        y.addVariable();
        y.addClause(1, 2);
        dueCounts("two variables", y, 1, 3L);
        y.addVariable();
        y.addParity(5, 0);
        dueCounts("three variables", y, 2, 3L);
    }

    /** All ways to settle five of ten variables, each by one more call than the one before; 497 calls in all. */
    private static void everyEvidence() {
        long[][] choose = new long[11][12];
        for (int of = 0; of <= 10; of++) {
            choose[of][0] = 1;
            for (int i = 1; i <= of; i++) {
                choose[of][i] = choose[of - 1][i - 1] + choose[of - 1][i];
            }
        }
        Watched x = Check.with(10);
        x.addBound(1023, 5, 5);
        int[] evidence = {-1, -1, -1, -1, -1};
        int[] turn = {1, 1, 1, 1, 1};
        Check.due("11: none settled", x.models(), 252L);
        for (int state = 1; state < 243; state++) {
            int i = 0;
            while (evidence[i] + turn[i] < -1 || evidence[i] + turn[i] > 1) {
                turn[i] = -turn[i];
                i++;
            }
            Check.due("9: before", x.setEvidence(i, evidence[i] + turn[i]), evidence[i]);
            evidence[i] += turn[i];
            int settled = 0;
            int settledTrue = 0;
            for (int value : evidence) {
                settled += value >= 0 ? 1 : 0;
                settledTrue += value > 0 ? 1 : 0;
            }
            Check.due("11: state " + state, x.models(), choose[10 - settled][5 - settledTrue]);
        }
    }

    private static void wrongVariables() {
        for (int variables : NUMBERS) {
            Watched x = Check.with(variables);
            for (int bad : Check.outside(0, variables - 1)) {
                Check.thrown(x, "20: variable " + bad + " of " + variables, Check.INDEX, () -> x.partOf(bad));
                Check.thrown(x, "21: variable " + bad + " of " + variables, Check.INDEX, () -> x.modelsOfPart(bad));
            }
        }
    }

    private static void variablesWithEvidence() {
        for (int value = 0; value <= 1; value++) {
            Watched x = Check.with(10);
            x.addClause(513, 0);
            for (int i = 0; i < 10; i++) {
                int variable = i;
                x.setEvidence(variable, value);
                Check.thrown(x, "20: evidence", Check.NOTHING, () -> x.partOf(variable));
                Check.thrown(x, "21: evidence", Check.NOTHING, () -> x.modelsOfPart(variable));
                if (i % 9 != 0) {
                    x.setEvidence(variable, -1);
                    Check.due("20: none any more", x.partOf(variable), variable);
                    Check.due("21: none any more", x.modelsOfPart(variable), 2L);
                }
            }
            for (int bad : Check.outside(0, 9)) {
                Check.thrown(x, "20: no variable " + bad + ", all the same", Check.INDEX, () -> x.partOf(bad));
                Check.thrown(x, "21: no variable " + bad + ", all the same", Check.INDEX, () -> x.modelsOfPart(bad));
            }
        }
    }
}
