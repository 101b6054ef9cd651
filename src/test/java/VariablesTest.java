/** Promises 1 to 10: variables, constraints, evidence. */
public final class VariablesTest {
    public static void main(String[] args) {
        newObject();
        addVariable();
        setWeights();
        addClause();
        addParity();
        addBound();
        firstListedThrows();
        fullConstraints();
        dropAndKind();
        setEvidence();
        holds();
        Check.end();
    }

    private static void newObject() {
        Watched x = new Watched();
        Check.due("1: models", x.models(), 1L);
        Check.due("1: weightOf(0)", x.weightOf(0), 1L);
        Check.due("1: parts", x.parts(), 0);
        Check.due("1: first", x.first(), 0);
        Check.thrown(x, "1: no variable", IndexOutOfBoundsException.class, () -> x.orderAt(0));
        Check.thrown(x, "1: no constraint", IndexOutOfBoundsException.class, () -> x.kind(0));
        for (int i = 0; i < 4; i++) {
            int slot = i;
            Check.thrown(x, "1: nothing kept", java.util.NoSuchElementException.class, () -> x.modelsOf(slot));
        }
    }

    private static void addVariable() {
        Watched x = new Watched();
        for (int i = 0; i < 10; i++) {
            Check.due("2: addVariable", x.addVariable(), i);
            Check.due("2: it comes last", x.orderAt(i), i);
            Check.due("2: models", x.models(), 2L << i);
            Check.due("2: its weights", x.setWeights(i, 1, 1), 11);
            Check.due("2: its evidence", x.setEvidence(i, -1), -1);
            if (i > 0) {
                x.exchange(0, i);
                Check.due("2: an exchange brings it ahead", x.orderAt(0), i);
                x.exchange(i, 0);
            }
        }
        Check.thrown(x, "2: an eleventh one", IllegalStateException.class, x::addVariable);
        Watched y = Check.with(2);
        y.exchange(0, 1);
        y.addVariable();
        Check.due("2: the order stays", y.orderAt(0) * 100 + y.orderAt(1) * 10 + y.orderAt(2), 102);
    }

    private static void setWeights() {
        Watched x = Check.with(2);
        Check.due("3: at first", x.setWeights(1, 0, 9), 11);
        Check.due("3: again", x.setWeights(1, 9, 0), 9);
        Check.due("3: and again", x.setWeights(1, 4, 5), 90);
        Check.due("3: weightOf", x.weightOf(0) * 10 + x.weightOf(2), 45L);
        Check.due("3: the other", x.setWeights(0, 2, 3), 11);
        Check.due("3: product", x.weightOf(3), 15L);
        for (int bad : new int[] {-1, 10, Integer.MIN_VALUE, Integer.MAX_VALUE}) {
            Check.thrown(x, "3: no", IllegalArgumentException.class, () -> x.setWeights(0, bad, 1));
            Check.thrown(x, "3: yes", IllegalArgumentException.class, () -> x.setWeights(0, 1, bad));
        }
        for (int bad : new int[] {-1, 2, 32, Integer.MIN_VALUE, Integer.MAX_VALUE}) {
            Check.thrown(x, "3: variable", IndexOutOfBoundsException.class, () -> x.setWeights(bad, 1, 1));
            Check.thrown(x, "3: both", IndexOutOfBoundsException.class, () -> x.setWeights(bad, 10, -1));
        }
        Check.due("3: nothing changed", x.setWeights(0, 1, 1), 23);
        Watched y = Check.with(1);
        y.setWeights(0, 2, 3);
        y.addVariable();
        Check.due("3: a new variable leaves weights", y.weightOf(1), 3L);
    }

    private static void addClause() {
        Watched x = Check.with(3);
        Check.due("4: x.addClause", x.addClause(1, 2), 0);
        Check.due("4: kind", x.kind(0), 'o');
        Check.due("4: models", x.models(), 6L);
        Check.due("4: on one side alone", x.addClause(0, 4), 1);
        Check.due("4: models", x.models(), 3L);
        Check.due("4: in both sets", x.addClause(1, 1), 2);
        Check.due("4: models", x.models(), 3L);
        Check.thrown(x, "4: empty", IllegalArgumentException.class, () -> x.addClause(0, 0));
        for (int bad : new int[] {8, 9, -1, Integer.MIN_VALUE, 1024}) {
            Check.thrown(x, "4: yes", IllegalArgumentException.class, () -> x.addClause(bad, 1));
            Check.thrown(x, "4: no", IllegalArgumentException.class, () -> x.addClause(1, bad));
        }
    }

    private static void addParity() {
        Watched x = Check.with(3);
        Check.due("5: addParity", x.addParity(7, 1), 0);
        Check.due("5: kind", x.kind(0), 'x');
        Check.due("5: models", x.models(), 4L);
        Check.due("5: the first", x.first(), 4);
        Check.due("5: addParity", x.addParity(4, 0), 1);
        Check.due("5: the first", x.first(), 2);
        Check.thrown(x, "5: empty", IllegalArgumentException.class, () -> x.addParity(0, 0));
        for (int bad : new int[] {-1, 2, Integer.MAX_VALUE}) {
            Check.thrown(x, "5: rest", IllegalArgumentException.class, () -> x.addParity(1, bad));
        }
        for (int bad : new int[] {8, 15, -1, Integer.MIN_VALUE}) {
            Check.thrown(x, "5: set", IllegalArgumentException.class, () -> x.addParity(bad, 0));
        }
    }

    private static void addBound() {
        Watched x = Check.with(4);
        Check.due("6: addBound", x.addBound(15, 1, 2), 0);
        Check.due("6: kind", x.kind(0), 'k');
        Check.due("6: models", x.models(), 10L);
        Check.due("6: all that can be", x.addBound(3, 0, 10), 1);
        Check.due("6: models", x.models(), 10L);
        Check.due("6: least and greatest alike", x.addBound(3, 2, 2), 2);
        Check.due("6: models", x.models(), 1L);
        Check.due("6: more than can be", x.addBound(3, 10, 10), 3);
        Check.due("6: models", x.models(), 0L);
        Check.thrown(x, "6: empty", IllegalArgumentException.class, () -> x.addBound(0, 0, 1));
        Check.thrown(x, "6: least is greater", IllegalArgumentException.class, () -> x.addBound(3, 2, 1));
        Check.thrown(x, "6: least under 0", IllegalArgumentException.class, () -> x.addBound(3, -1, 1));
        Check.thrown(x, "6: greatest over 10", IllegalArgumentException.class, () -> x.addBound(3, 0, 11));
        Check.thrown(x, "6: both over 10", IllegalArgumentException.class, () -> x.addBound(3, 11, 11));
        Check.thrown(x, "6: both under 0", IllegalArgumentException.class, () -> x.addBound(3, -2, -1));
        for (int bad : new int[] {16, 31, -1, Integer.MIN_VALUE}) {
            Check.thrown(x, "6: set", IllegalArgumentException.class, () -> x.addBound(bad, 0, 1));
        }
    }

    private static void firstListedThrows() {
        Watched x = new Watched();
        Check.thrown(x, "4: without variables", IllegalArgumentException.class, () -> x.addClause(1, 0));
        Check.thrown(x, "5: without variables", IllegalArgumentException.class, () -> x.addParity(1, 0));
        Check.thrown(x, "6: without variables", IllegalArgumentException.class, () -> x.addBound(1, 0, 1));
    }

    private static void fullConstraints() {
        Watched x = Check.with(2);
        for (int i = 0; i < 20; i++) {
            Check.due("4: number", x.addClause(3, 0), i);
        }
        x.drop(19);
        x.drop(0);
        Check.thrown(x, "4: full", IllegalStateException.class, () -> x.addClause(3, 0));
        Check.thrown(x, "5: full", IllegalStateException.class, () -> x.addParity(3, 0));
        Check.thrown(x, "6: full", IllegalStateException.class, () -> x.addBound(3, 0, 1));
        Check.thrown(x, "4: full and wrong", IllegalArgumentException.class, () -> x.addClause(4, 0));
        Check.thrown(x, "4: full and empty", IllegalArgumentException.class, () -> x.addClause(0, 0));
        Check.thrown(x, "5: full and wrong", IllegalArgumentException.class, () -> x.addParity(3, 2));
        Check.thrown(x, "6: full and wrong", IllegalArgumentException.class, () -> x.addBound(3, 2, 1));
        Check.thrown(x, "7: no such one", IndexOutOfBoundsException.class, () -> x.drop(20));
    }

    private static void dropAndKind() {
        Watched x = Check.with(2);
        x.addClause(1, 0);
        x.addParity(2, 1);
        x.addBound(3, 0, 1);
        Check.due("7: models", x.models(), 0L);
        Check.due("7: drop", x.drop(1), 2);
        Check.due("7: models", x.models(), 1L);
        Check.due("7: drop", x.drop(0), 1);
        Check.due("7: models", x.modelsByAll(), 3L);
        Check.due("8: kinds, dropped or not", "" + x.kind(0) + x.kind(1) + x.kind(2), "oxk");
        Check.thrown(x, "7: twice", IllegalStateException.class, () -> x.drop(1));
        Check.due("7: drop", x.drop(2), 0);
        Check.due("7: models", x.models(), 4L);
        for (int bad : new int[] {-1, 3, 20, 32, Integer.MIN_VALUE, Integer.MAX_VALUE}) {
            Check.thrown(x, "7: no such", IndexOutOfBoundsException.class, () -> x.drop(bad));
            Check.thrown(x, "8: no such", IndexOutOfBoundsException.class, () -> x.kind(bad));
        }
        Check.due("7: the next number", x.addClause(1, 0), 3);
    }

    private static void setEvidence() {
        Watched x = Check.with(3);
        Check.due("9: none before", x.setEvidence(1, 1), -1);
        Check.due("9: models", x.models(), 4L);
        Check.due("9: first", x.first(), 2);
        Check.due("9: true before", x.setEvidence(1, 0), 1);
        Check.due("9: first", x.first(), 0);
        Check.due("9: false before", x.setEvidence(1, -1), 0);
        Check.due("9: models", x.models(), 8L);
        Check.due("9: none again", x.setEvidence(1, -1), -1);
        Check.due("9: the same again", x.setEvidence(2, 1) * 10 + x.setEvidence(2, 1), -9);
        Check.due("9: away", x.setEvidence(2, -1), 1);
        for (int bad : new int[] {-2, 2, Integer.MIN_VALUE, Integer.MAX_VALUE}) {
            Check.thrown(x, "9: value", IllegalArgumentException.class, () -> x.setEvidence(0, bad));
        }
        for (int bad : new int[] {-1, 3, 32, Integer.MIN_VALUE, Integer.MAX_VALUE}) {
            Check.thrown(x, "9: variable", IndexOutOfBoundsException.class, () -> x.setEvidence(bad, 0));
            Check.thrown(x, "9: both", IndexOutOfBoundsException.class, () -> x.setEvidence(bad, 2));
        }
    }

    private static void holds() {
        Watched x = Check.with(3);
        x.addClause(1, 2);
        x.addParity(6, 1);
        x.addBound(7, 2, 2);
        x.setEvidence(0, 1);
        String[] rows = {"11011101", "00111100", "00010110"};
        for (int round = 0; round < 2; round++) {
            for (int constraint = 0; constraint < 3; constraint++) {
                for (int a = 0; a < 8; a++) {
                    Check.due("10: holds(" + constraint + ", " + a + ")", x.holds(constraint, a),
                            rows[constraint].charAt(a) == '1');
                }
                if (round == 0) {
                    x.drop(constraint);
                }
            }
        }
        for (int bad : new int[] {8, 1024, -1, Integer.MIN_VALUE, Integer.MAX_VALUE}) {
            Check.thrown(x, "10: assignment", IllegalArgumentException.class, () -> x.holds(0, bad));
            Check.thrown(x, "10: both", IndexOutOfBoundsException.class, () -> x.holds(3, bad));
            Check.thrown(x, "10: both", IndexOutOfBoundsException.class, () -> x.holds(-1, bad));
        }
        Check.thrown(x, "10: constraint", IndexOutOfBoundsException.class, () -> x.holds(3, 0));
    }
}
