import java.util.NoSuchElementException;

/** Promises 26 to 40: the circuit of the models, kept circuits, density and mean. */
public final class CircuitsTest {
    private static final int[] BAD_SLOTS = {-1, 4, Integer.MIN_VALUE, Integer.MAX_VALUE};
    private static final int[] BAD_PLACES = {-1, 3, 10, Integer.MIN_VALUE, Integer.MAX_VALUE};

    public static void main(String[] args) {
        ends();
        nodesAndWays();
        orders();
        greatCircuits();
        keep();
        join();
        joinIntoItself();
        fixAndFree();
        compare();
        otherNumbers();
        listedFirst();
        densityAndMean();
        Check.end();
    }

    private static void ends() {
        Watched x = new Watched();
        Check.due("26: without variables", x.nodes(), 0);
        Check.due("28: the end for yes alone", x.ways(), 1L);
        Check.thrown(x, "27: variable", IndexOutOfBoundsException.class, () -> x.nodesFor(0));
        Check.thrown(x, "29: place", IndexOutOfBoundsException.class, () -> x.exchange(0, 0));
        x.addVariable();
        Check.due("26: yes alone", x.nodes() + x.nodesFor(0), 0);
        Check.due("28: yes alone", x.ways(), 1L);
        x.addParity(1, 1);
        Check.due("26: one node", x.nodes() * 10 + x.nodesFor(0), 11);
        Check.due("28: one way", x.ways(), 1L);
        x.addParity(1, 0);
        Check.due("26: no alone", x.nodes() + x.nodesFor(0), 0);
        Check.due("28: no alone", x.ways(), 0L);
    }

    private static void nodesAndWays() {
        Watched x = Check.with(3);
        x.addParity(7, 1);
        Check.due("26: parity", x.nodes(), 5);
        Check.due("27: parity", x.nodesFor(0) * 100 + x.nodesFor(1) * 10 + x.nodesFor(2), 122);
        Check.due("28: parity", x.ways(), 4L);
        x.setWeights(0, 0, 0);
        Check.due("26: whatever the weights", x.nodes(), 5);
        x.drop(0);
        x.addClause(5, 0);
        Check.due("26: 0 or 2", x.nodes(), 2);
        Check.due("27: 1 is not asked for", x.nodesFor(0) * 100 + x.nodesFor(1) * 10 + x.nodesFor(2), 101);
        Check.due("28: 0 or 2", x.ways(), 2L);
        x.setEvidence(1, 0);
        Check.due("27: evidence is asked for twice", x.nodesFor(1), 2);
        Check.due("26: evidence is asked for", x.nodes(), 4);
        x.addClause(1, 0);
        Check.due("28: at once after a change", x.ways(), 1L);
        x.drop(2);
        x.keep(0);
        x.fix(0, 0, 1);
        Check.due("27: of the models, not of the slot", x.nodesFor(0), 1);
        x.nodesOf(0);
        Check.due("28: of the models, not of the slot", x.ways(), 2L);
        for (int bad : BAD_PLACES) {
            Check.thrown(x, "27: variable", IndexOutOfBoundsException.class, () -> x.nodesFor(bad));
            Check.thrown(x, "30: place", IndexOutOfBoundsException.class, () -> x.orderAt(bad));
            Check.thrown(x, "29: place", IndexOutOfBoundsException.class, () -> x.exchange(bad, 0));
            Check.thrown(x, "29: other", IndexOutOfBoundsException.class, () -> x.exchange(0, bad));
            Check.thrown(x, "31: no order", IndexOutOfBoundsException.class, () -> x.exchange(bad, bad));
        }
    }

    /** Pairs that are alike: few nodes if those of a pair are neighbours, many if they are apart. */
    private static void orders() {
        Watched x = Check.with(6);
        x.addParity(1 | 8, 0);
        x.addParity(2 | 16, 0);
        x.addParity(4 | 32, 0);
        Check.due("26: apart", x.nodes(), 1 + 2 + 4 + 8 + 4 + 2);
        Check.due("27: apart", x.nodesFor(0) + 10 * x.nodesFor(2) + 100 * x.nodesFor(3) + 1000 * x.nodesFor(5), 2841);
        Check.due("29: exchange", x.exchange(1, 3), 3 + 1 + 2 + 4 + 2);
        Check.due("30: order", order(x, 6), "032145");
        Check.due("27: 3 comes second", x.nodesFor(3) * 10 + x.nodesFor(1), 22);
        Check.due("29: exchange", x.exchange(2, 4), 9);
        Check.due("30: order", order(x, 6), "034125");
        Check.due("29: exchange", x.exchange(3, 2), 9);
        Check.due("29: exchange", x.exchange(3, 4), 12);
        Check.due("29: exchange", x.exchange(3, 4), 9);
        Check.due("29: exchange", x.exchange(2, 2), 9);
        Check.due("30: order", order(x, 6), "031425");
        Check.due("26: neighbours", x.nodes(), 9);
        Check.due("28: ways", x.ways(), 8L);
        x.addVariable();
        Check.due("30: order", order(x, 7), "0314256");
    }

    private static String order(Watched x, int variables) {
        StringBuilder order = new StringBuilder();
        for (int place = 0; place < variables; place++) {
            order.append(x.orderAt(place));
        }
        return order.toString();
    }

    private static void greatCircuits() {
        Watched x = Check.with(10);
        x.addParity(1023, 0);
        Check.due("26: parity of ten", x.nodes(), 19);
        Check.due("28: parity of ten", x.ways(), 512L);
        x.drop(0);
        for (int i = 0; i < 5; i++) {
            x.addParity(1 << i | 1 << i + 5, 0);
        }
        Check.due("26: five pairs apart", x.nodes(), 31 + 32 + 16 + 8 + 4 + 2);
        Check.due("27: the most for one", x.nodesFor(5), 32);
        Check.due("28: five pairs", x.ways(), 32L);
    }

    private static void keep() {
        Watched x = Check.with(3);
        x.addClause(5, 0);
        Check.due("31: keep", x.keep(3), 2);
        Check.due("36: modelsOf", x.modelsOf(3), 6L);
        Check.due("35: nodesOf", x.nodesOf(3), 2);
        x.addParity(7, 0);
        Check.due("36: it stays", x.modelsOf(3), 6L);
        Check.due("31: in place of another one", x.keep(3), x.nodes());
        Check.due("36: the new one", x.modelsOf(3), 3L);
        x.drop(0);
        x.drop(1);
        x.addParity(5, 0);
        x.keep(0);
        Check.due("35: by the order as it is now", x.nodesOf(0), 3);
        Check.due("29: exchange", x.exchange(1, 2), 3);
        x.drop(2);
        Check.due("35: still", x.nodesOf(0), 3);
        for (int bad : BAD_SLOTS) {
            Check.thrown(x, "31: slot", IllegalArgumentException.class, () -> x.keep(bad));
            Check.thrown(x, "35: slot", IllegalArgumentException.class, () -> x.nodesOf(bad));
            Check.thrown(x, "36: slot", IllegalArgumentException.class, () -> x.modelsOf(bad));
        }
        Check.thrown(x, "35: nothing", NoSuchElementException.class, () -> x.nodesOf(1));
        Check.thrown(x, "36: nothing", NoSuchElementException.class, () -> x.modelsOf(1));
        Watched y = Check.with(4);
        y.addParity(5, 0);
        y.addParity(10, 0);
        Check.due("31: apart", y.keep(1), 9);
        y.drop(0);
        y.drop(1);
        Check.due("29: of all assignments", y.exchange(1, 2), 0);
        Check.due("35: neighbours", y.nodesOf(1), 6);
    }

    /** Slot 0 keeps those with 0 true, slot 1 those with 1 true, of three variables. */
    private static Watched two() {
        Watched x = Check.with(3);
        x.setEvidence(0, 1);
        x.keep(0);
        x.setEvidence(0, -1);
        x.setEvidence(1, 1);
        x.keep(1);
        x.setEvidence(1, -1);
        return x;
    }

    private static void join() {
        Watched x = two();
        Check.due("32: both", x.join(0, 1, 'a', 2), 2);
        Check.due("32: both", x.modelsOf(2), 2L);
        Check.due("32: one or both", x.join(0, 1, 'o', 2), 2);
        Check.due("32: one or both", x.modelsOf(2), 6L);
        Check.due("32: just one", x.join(0, 1, 'x', 3), 3);
        Check.due("32: just one", x.modelsOf(3), 4L);
        Check.due("32: the slots stay", x.modelsOf(0) * 10 + x.modelsOf(1), 44L);
        Check.due("38: both is within one", x.join(1, 0, 'a', 3) == 2 && x.isWithin(3, 0) && x.isWithin(3, 1), true);
        for (char bad : new char[] {'A', 'b', 'O', 'X', 0, ' ', 65535}) {
            Check.thrown(x, "32: how", IllegalArgumentException.class, () -> x.join(0, 1, bad, 2));
        }
        for (int bad : BAD_SLOTS) {
            Check.thrown(x, "32: slot", IllegalArgumentException.class, () -> x.join(bad, 1, 'a', 2));
            Check.thrown(x, "32: other", IllegalArgumentException.class, () -> x.join(0, bad, 'a', 2));
            Check.thrown(x, "32: into", IllegalArgumentException.class, () -> x.join(0, 1, 'a', bad));
        }
    }

    private static void joinIntoItself() {
        Watched x = two();
        Check.due("32: into the first", x.join(0, 1, 'o', 0), 2);
        Check.due("32: into the first", x.modelsOf(0), 6L);
        Check.due("32: into the second", x.join(0, 1, 'x', 1), 2);
        Check.due("32: into the second", x.modelsOf(1), 2L);
        Check.due("32: with itself, both", x.join(1, 1, 'a', 1), 2);
        Check.due("32: with itself, one", x.join(1, 1, 'o', 2), 2);
        Check.due("37: the same", x.areSame(1, 2), true);
        Check.due("32: with itself, just one", x.join(1, 1, 'x', 1), 0);
        Check.due("32: nothing in it", x.modelsOf(1), 0L);
        Check.due("37: no more", x.areSame(1, 2), false);
    }

    private static void fixAndFree() {
        Watched x = Check.with(3);
        x.addClause(3, 4);
        x.keep(0);
        x.keep(1);
        x.keep(2);
        Check.due("33: fix", x.fix(0, 2, 1), 2);
        Check.due("33: 0 or 1, whatever 2 is", x.modelsOf(0), 6L);
        Check.due("33: fix", x.fix(0, 0, 0), 1);
        Check.due("33: 1", x.modelsOf(0), 4L);
        Check.due("33: not in it any more", x.fix(0, 0, 1), 1);
        Check.due("33: fix", x.fix(0, 1, 0), 0);
        Check.due("33: none", x.modelsOf(0), 0L);
        Check.due("33: fix", x.fix(1, 2, 0), 0);
        Check.due("33: all", x.modelsOf(1), 8L);
        Check.due("34: free", x.free(2, 0), 0);
        Check.due("34: all", x.modelsOf(2), 8L);
        x.addBound(7, 2, 2);
        x.keep(2);
        Check.due("36: 011, 101, 110", x.modelsOf(2), 3L);
        Check.due("34: free", x.free(2, 2), 2);
        Check.due("34: 0 or 1", x.modelsOf(2), 6L);
        Check.due("34: again", x.free(2, 2), 2);
        Check.due("34: free", x.free(2, 1), 0);
        for (int bad : BAD_SLOTS) {
            Check.thrown(x, "33: slot", IllegalArgumentException.class, () -> x.fix(bad, 0, 0));
            Check.thrown(x, "34: slot", IllegalArgumentException.class, () -> x.free(bad, 0));
        }
        for (int bad : new int[] {-1, 2, Integer.MIN_VALUE, Integer.MAX_VALUE}) {
            Check.thrown(x, "33: value", IllegalArgumentException.class, () -> x.fix(0, 0, bad));
        }
        for (int bad : BAD_PLACES) {
            Check.thrown(x, "33: variable", IndexOutOfBoundsException.class, () -> x.fix(0, bad, 0));
            Check.thrown(x, "34: variable", IndexOutOfBoundsException.class, () -> x.free(0, bad));
        }
        Watched y = Check.with(10);
        y.addBound(1023, 10, 10);
        y.keep(0);
        Check.due("33: of ten", y.fix(0, 9, 1), 9);
        Check.due("34: of ten", y.free(0, 8), 8);
        Check.due("36: of ten", y.modelsOf(0), 4L);
    }

    private static void compare() {
        Watched x = two();
        Check.due("37: unlike", x.areSame(0, 1), false);
        Check.due("37: with itself", x.areSame(1, 1), true);
        Check.due("38: unlike", x.isWithin(0, 1) || x.isWithin(1, 0), false);
        Check.due("38: with itself", x.isWithin(0, 0), true);
        x.join(0, 1, 'o', 2);
        Check.due("38: within", x.isWithin(0, 2) && x.isWithin(1, 2), true);
        Check.due("38: not the other way", x.isWithin(2, 0), false);
        Check.due("37: within is not the same", x.areSame(0, 2) || x.areSame(2, 0), false);
        x.join(0, 0, 'x', 3);
        Check.due("38: none is within all", x.isWithin(3, 0) && !x.isWithin(0, 3), true);
        for (int bad : BAD_SLOTS) {
            Check.thrown(x, "37: slot", IllegalArgumentException.class, () -> x.areSame(bad, 0));
            Check.thrown(x, "37: other", IllegalArgumentException.class, () -> x.areSame(0, bad));
            Check.thrown(x, "38: slot", IllegalArgumentException.class, () -> x.isWithin(bad, 0));
            Check.thrown(x, "38: other", IllegalArgumentException.class, () -> x.isWithin(0, bad));
        }
        Watched y = Check.with(10);
        y.addBound(1023, 10, 10);
        y.keep(0);
        y.setEvidence(9, 0);
        y.keep(1);
        Check.due("37: the last assignment counts", y.areSame(0, 1), false);
        Check.due("38: the last assignment counts", y.isWithin(0, 1), false);
        Check.due("38: none is within", y.isWithin(1, 0), true);
    }

    private static void otherNumbers() {
        Watched x = two();
        x.addVariable();
        Check.due("36: of three variables still", x.modelsOf(0), 4L);
        Check.due("37: both of three", x.areSame(0, 1), false);
        Check.due("38: both of three", x.isWithin(0, 0), true);
        Check.thrown(x, "35: of three", UnsupportedOperationException.class, () -> x.nodesOf(0));
        Check.thrown(x, "33: of three", UnsupportedOperationException.class, () -> x.fix(0, 3, 0));
        Check.thrown(x, "34: of three", UnsupportedOperationException.class, () -> x.free(0, 0));
        Check.thrown(x, "32: of three", UnsupportedOperationException.class, () -> x.join(0, 1, 'a', 2));
        x.keep(2);
        Check.thrown(x, "32: of three and four", UnsupportedOperationException.class, () -> x.join(0, 2, 'a', 3));
        Check.thrown(x, "32: of four and three", UnsupportedOperationException.class, () -> x.join(2, 0, 'a', 3));
        Check.thrown(x, "37: of three and four", UnsupportedOperationException.class, () -> x.areSame(0, 2));
        Check.thrown(x, "38: of four and three", UnsupportedOperationException.class, () -> x.isWithin(2, 0));
        Check.due("32: into one of three", x.join(2, 2, 'o', 0), 0);
        Check.due("36: it is of four now", x.modelsOf(0), 16L);
        Check.due("37: of four", x.areSame(0, 2), true);
        Check.due("31: into one of three", x.keep(1), 0);
        Check.due("35: it is of four now", x.nodesOf(1), 0);
        Watched y = new Watched();
        Check.due("31: without variables", y.keep(0), 0);
        Check.due("36: without variables", y.modelsOf(0), 1L);
        Check.due("32: without variables", y.join(0, 0, 'x', 1), 0);
        Check.due("36: without variables, none", y.modelsOf(1), 0L);
        y.addVariable();
        y.keep(2);
        Check.thrown(y, "37: of none and one", UnsupportedOperationException.class, () -> y.areSame(0, 2));
    }

    private static void listedFirst() {
        Watched x = two();
        Check.thrown(x, "32: nothing kept", NoSuchElementException.class, () -> x.join(0, 2, 'a', 0));
        Check.thrown(x, "32: nothing kept", NoSuchElementException.class, () -> x.join(2, 0, 'a', 0));
        Check.thrown(x, "37: nothing kept", NoSuchElementException.class, () -> x.areSame(2, 0));
        Check.thrown(x, "37: nothing kept", NoSuchElementException.class, () -> x.areSame(0, 2));
        Check.thrown(x, "37: nothing kept twice", NoSuchElementException.class, () -> x.areSame(2, 2));
        Check.thrown(x, "38: nothing kept", NoSuchElementException.class, () -> x.isWithin(2, 0));
        Check.thrown(x, "38: nothing kept", NoSuchElementException.class, () -> x.isWithin(0, 2));
        Check.thrown(x, "33: nothing kept", NoSuchElementException.class, () -> x.fix(2, 0, 0));
        Check.thrown(x, "34: nothing kept", NoSuchElementException.class, () -> x.free(2, 0));
        Check.thrown(x, "33: variable and nothing", IndexOutOfBoundsException.class, () -> x.fix(2, 3, 0));
        Check.thrown(x, "34: variable and nothing", IndexOutOfBoundsException.class, () -> x.free(2, 3));
        Check.thrown(x, "33: value and variable", IllegalArgumentException.class, () -> x.fix(2, 3, 2));
        Check.thrown(x, "33: slot and variable", IllegalArgumentException.class, () -> x.fix(4, 3, 0));
        Check.thrown(x, "34: slot and variable", IllegalArgumentException.class, () -> x.free(4, 3));
        Check.thrown(x, "32: how and nothing", IllegalArgumentException.class, () -> x.join(2, 3, 'y', 0));
        Check.thrown(x, "32: into and nothing", IllegalArgumentException.class, () -> x.join(2, 3, 'a', 4));
        Check.thrown(x, "37: slot and nothing", IllegalArgumentException.class, () -> x.areSame(2, 4));
        Check.thrown(x, "38: slot and nothing", IllegalArgumentException.class, () -> x.isWithin(2, -1));
        x.addVariable();
        Check.thrown(x, "32: nothing and unlike", NoSuchElementException.class, () -> x.join(0, 2, 'a', 0));
        Check.thrown(x, "32: how and unlike", IllegalArgumentException.class, () -> x.join(0, 1, 'y', 0));
        Check.thrown(x, "33: value and unlike", IllegalArgumentException.class, () -> x.fix(0, 0, 2));
        Check.thrown(x, "33: variable and unlike", IndexOutOfBoundsException.class, () -> x.fix(0, 4, 0));
        Check.thrown(x, "34: variable and unlike", IndexOutOfBoundsException.class, () -> x.free(0, 4));
        Check.thrown(x, "37: nothing and unlike", NoSuchElementException.class, () -> x.areSame(0, 3));
    }

    private static void densityAndMean() {
        Watched x = new Watched();
        Check.due("39: without variables", x.density(), 1.0f);
        Check.due("40: without variables", x.meanTrue(), 0.0);
        x.addVariable();
        x.addVariable();
        x.addVariable();
        Check.due("40: of all", x.meanTrue(), 1.5);
        x.addClause(7, 0);
        Check.due("39: density", x.density(), 0.875f);
        Check.due("40: mean", x.meanTrue(), 12.0 / 7.0);
        x.setWeights(0, 1, 3);
        // 1 and 2 as they are: 1, 1, 2 true by 1, and 1, 2, 2, 3 true by 3.
        Check.due("40: by weight", x.meanTrue(), 28.0 / 15.0);
        x.setEvidence(0, 0);
        Check.due("39: with evidence", x.density(), 0.375f);
        Check.due("40: with evidence", x.meanTrue(), 4.0 / 3.0);
        x.setWeights(0, 0, 3);
        Check.due("39: whatever the weights", x.density(), 0.375f);
        Check.thrown(x, "40: weight 0", NoSuchElementException.class, x::meanTrue);
        Watched y = Check.with(10);
        y.addBound(1023, 0, 3);
        Check.due("39: of ten", y.density(), 176.0f / 1024.0f);
    }
}
