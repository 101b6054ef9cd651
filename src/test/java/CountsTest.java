import java.util.NoSuchElementException;

/** Promises 11 to 25: counts and chances, parts, best and lucky models. */
public final class CountsTest {
    private static final int[] BAD_VARIABLES = {-1, 4, 32, Integer.MIN_VALUE, Integer.MAX_VALUE};

    public static void main(String[] args) {
        counts();
        settledConstraints();
        greatWeights();
        chances();
        projected();
        implied();
        parts();
        best();
        lucky();
        first();
        withoutModels();
        Check.end();
    }

    /** 0 or 1; 1 and 2 unlike; 3 of its own. Models of the first three: 010, 101, 110 with the lowest first. */
    private static Watched small() {
        Watched x = Check.with(4);
        x.addClause(3, 0);
        x.addParity(6, 1);
        return x;
    }

    private static void counts() {
        Watched x = small();
        Check.due("11: models", x.models(), 6L);
        Check.due("12: modelsByAll", x.modelsByAll(), 6L);
        Check.due("13: weight", x.weight(), 6L);
        x.setWeights(0, 2, 3);
        x.setWeights(1, 1, 5);
        x.setWeights(2, 7, 1);
        x.setWeights(3, 0, 4);
        Check.due("11: models, whatever the weights", x.models(), 6L);
        // 010 weighs 2*5*7, 101 weighs 3*1*1, 110 weighs 3*5*7, each by 0 and 4.
        Check.due("13: weight", x.weight(), 4L * (70 + 3 + 105));
        Check.due("14: 0 false", x.weightWith(0, 0), 280L);
        Check.due("14: 0 true", x.weightWith(0, 1), 432L);
        Check.due("14: 3 false", x.weightWith(3, 0), 0L);
        Check.due("14: 3 true", x.weightWith(3, 1), 712L);
        x.setEvidence(0, 1);
        Check.due("11: with evidence", x.models(), 4L);
        Check.due("12: with evidence", x.modelsByAll(), 4L);
        Check.due("13: with evidence", x.weight(), 432L);
        Check.due("14: against evidence", x.weightWith(0, 0), 0L);
        for (int bad : new int[] {-1, 2, Integer.MAX_VALUE}) {
            Check.thrown(x, "14: value", IllegalArgumentException.class, () -> x.weightWith(0, bad));
        }
        for (int bad : BAD_VARIABLES) {
            Check.thrown(x, "14: variable", IndexOutOfBoundsException.class, () -> x.weightWith(bad, 0));
            Check.thrown(x, "14: both", IndexOutOfBoundsException.class, () -> x.weightWith(bad, 2));
        }
    }

    private static void settledConstraints() {
        Watched x = small();
        x.setEvidence(0, 0);
        x.setEvidence(1, 0);
        Check.due("11: a settled clause fails", x.models(), 0L);
        Check.due("12: a settled clause fails", x.modelsByAll(), 0L);
        Check.due("19: parts", x.parts(), 2);
        Check.due("21: the parts have models still", x.modelsOfPart(2) * 10 + x.modelsOfPart(3), 12L);
        x.drop(0);
        Check.due("11: dropped", x.models(), 2L);
        x.setEvidence(2, 0);
        x.setEvidence(3, 0);
        Check.due("11: all settled, one fails", x.models(), 0L);
        x.setEvidence(2, 1);
        Check.due("11: all settled", x.models(), 1L);
        Check.due("19: no parts", x.parts(), 0);
    }

    private static void greatWeights() {
        Watched x = Check.with(10);
        for (int i = 0; i < 10; i++) {
            x.setWeights(i, 9, 9);
        }
        Check.due("11: all assignments", x.models() + x.modelsByAll(), 2048L);
        Check.due("23: the greatest weight", x.weightOf(1023), 3486784401L);
        Check.due("13: their sum", x.weight(), 3570467226624L);
        Check.due("14: half of it", x.weightWith(9, 1), 1785233613312L);
        Check.due("15: chance", x.chanceTop(9) * 10 + x.chanceBottom(9), 12L);
        Check.due("24: the last lucky one", x.lucky(3570467226623L), 1023);
        Check.due("24: the middle one", x.lucky(1785233613312L), 1);
        Check.due("40: mean", x.meanTrue(), 5.0);
        x.addBound(1023, 9, 9);
        Check.due("22: ahead is false first", x.best(0), 1022);
        Check.due("22: the last one", x.best(9), 511);
        Check.thrown(x, "22: not so many", NoSuchElementException.class, () -> x.best(10));
    }

    private static void chances() {
        Watched x = Check.with(4);
        x.setWeights(0, 3, 6);
        Check.due("15: in lowest terms", x.chanceTop(0), 2L);
        Check.due("16: in lowest terms", x.chanceBottom(0), 3L);
        x.setWeights(1, 5, 0);
        Check.due("15: never", x.chanceTop(1), 0L);
        Check.due("16: never", x.chanceBottom(1), 1L);
        x.setWeights(2, 0, 4);
        Check.due("15: always", x.chanceTop(2), 1L);
        Check.due("16: always", x.chanceBottom(2), 1L);
        x.addClause(0, 9);
        Check.due("15: by models", x.chanceTop(0), 1L);
        Check.due("16: by models", x.chanceBottom(0), 2L);
        x.addClause(2, 0);
        Check.due("13: weight 0", x.weight(), 0L);
        Check.thrown(x, "15: weight 0", NoSuchElementException.class, () -> x.chanceTop(0));
        Check.thrown(x, "16: weight 0", NoSuchElementException.class, () -> x.chanceBottom(0));
        Check.thrown(x, "40: weight 0", NoSuchElementException.class, x::meanTrue);
        for (int bad : BAD_VARIABLES) {
            Check.thrown(x, "15: variable", IndexOutOfBoundsException.class, () -> x.chanceTop(bad));
            Check.thrown(x, "16: variable", IndexOutOfBoundsException.class, () -> x.chanceBottom(bad));
        }
    }

    private static void projected() {
        Watched x = small();
        long[] want = {1, 2, 2, 3, 2, 3, 2, 3, 2, 4, 4, 6, 4, 6, 4, 6};
        for (int set = 0; set < 16; set++) {
            Check.due("17: projected(" + set + ")", x.projected(set), want[set]);
        }
        x.setEvidence(1, 1);
        Check.due("17: with evidence", x.projected(7), 2L);
        x.setWeights(0, 0, 0);
        Check.due("17: whatever the weights", x.projected(1), 2L);
        for (int bad : new int[] {16, -1, Integer.MIN_VALUE, Integer.MAX_VALUE}) {
            Check.thrown(x, "17: set", IllegalArgumentException.class, () -> x.projected(bad));
        }
        x.setEvidence(2, 1);
        Check.due("17: without models", x.projected(0), 0L);
        Watched y = Check.with(2);
        Check.due("17: all false counts too", y.projected(3), 4L);
        y.addBound(3, 0, 0);
        Check.due("17: all false alone", y.projected(1), 1L);
    }

    private static void implied() {
        Watched x = small();
        Check.due("18: both", x.implied(1), '-');
        x.setEvidence(1, 1);
        Check.due("18: 1 is true", x.implied(1), 't');
        Check.due("18: 2 is false", x.implied(2), 'f');
        Check.due("18: 0 is both", x.implied(0), '-');
        x.setWeights(0, 0, 1);
        Check.due("18: whatever the weights", x.implied(0), '-');
        x.setEvidence(1, 0);
        Check.due("18: 0 is true", x.implied(0), 't');
        x.setEvidence(0, 0);
        Check.due("18: no models", x.implied(3), 'n');
        for (int bad : BAD_VARIABLES) {
            Check.thrown(x, "18: variable", IndexOutOfBoundsException.class, () -> x.implied(bad));
        }
        Watched y = Check.with(1);
        Check.due("18: all false counts too", y.implied(0), '-');
        y.setEvidence(0, 0);
        Check.due("18: all false alone", y.implied(0), 'f');
    }

    private static void parts() {
        Watched x = Check.with(10);
        Check.due("19: each its own", x.parts(), 10);
        x.addClause(1 << 9, 1 << 2);
        x.addParity(1 << 4 | 1 << 9, 1);
        x.addBound(1 << 3 | 1 << 5 | 1 << 7, 1, 1);
        Check.due("19: parts", x.parts(), 6);
        Check.due("20: names", x.partOf(9) * 100 + x.partOf(4) * 10 + x.partOf(7), 223);
        Check.due("20: its own name", x.partOf(8), 8);
        Check.due("21: 2, 4, 9", x.modelsOfPart(4), 3L);
        Check.due("21: 3, 5, 7", x.modelsOfPart(7), 3L);
        Check.due("21: 0", x.modelsOfPart(0), 2L);
        Check.due("11: the product", x.models(), 144L);
        x.setEvidence(9, 1);
        Check.due("19: evidence joins nothing", x.parts(), 7);
        Check.due("20: 2 and 4 alone", x.partOf(2) * 10 + x.partOf(4), 24);
        Check.due("21: settled by 9", x.modelsOfPart(2), 2L);
        Check.due("21: forced by 9", x.modelsOfPart(4), 1L);
        x.setEvidence(9, 0);
        Check.due("21: forced by 9 too", x.modelsOfPart(2), 1L);
        Check.thrown(x, "20: evidence", NoSuchElementException.class, () -> x.partOf(9));
        Check.thrown(x, "21: evidence", NoSuchElementException.class, () -> x.modelsOfPart(9));
        x.addClause(1 << 9 | 1 << 2 | 1 << 3, 1 << 9);
        Check.due("20: joined though settled", x.partOf(7), 2);
        Check.due("21: both together", x.modelsOfPart(7), 3L);
        x.drop(3);
        Check.due("20: no more", x.partOf(7), 3);
        x.setEvidence(9, -1);
        Check.due("20: joined again", x.partOf(4), 2);
        Check.due("21: as it was", x.modelsOfPart(4), 3L);
        x.drop(1);
        Check.due("20: dropped joins nothing", x.partOf(4), 4);
        Check.due("21: dropped", x.modelsOfPart(9), 3L);
        for (int bad : new int[] {-1, 10, 32, Integer.MIN_VALUE, Integer.MAX_VALUE}) {
            Check.thrown(x, "20: variable", IndexOutOfBoundsException.class, () -> x.partOf(bad));
            Check.thrown(x, "21: variable", IndexOutOfBoundsException.class, () -> x.modelsOfPart(bad));
        }
        x.addParity(1, 0);
        x.addParity(1, 1);
        Check.due("21: a part without models", x.modelsOfPart(0), 0L);
        Check.due("21: the others have theirs", x.modelsOfPart(1), 2L);
        Check.due("11: none at all", x.models(), 0L);
    }

    private static void best() {
        Watched x = Check.with(5);
        int[] plain = {0, 16, 8, 24, 4, 20, 12, 28, 2, 18, 10, 26, 6, 22, 14, 30, 1, 17, 9, 25, 5};
        for (int rank = 0; rank < 21; rank++) {
            Check.due("22: alike, rank " + rank, x.best(rank), plain[rank]);
        }
        x.setWeights(4, 1, 2);
        Check.due("22: greater first", x.best(0) * 100 + x.best(1), 1624);
        Check.due("22: then the others", x.best(15) * 100 + x.best(16), 3100);
        x.setWeights(0, 3, 0);
        x.setEvidence(1, 1);
        x.setEvidence(2, 1);
        int[] due = {22, 30, 6, 14, 7, 23, 15, 31};
        for (int rank = 0; rank < 8; rank++) {
            Check.due("22: rank " + rank, x.best(rank), due[rank]);
        }
        Check.due("22: weight 0 comes last", x.weightOf(due[4]) + x.weightOf(due[7]), 0L);
        Check.thrown(x, "22: not so many", NoSuchElementException.class, () -> x.best(8));
        Check.thrown(x, "22: not so many", NoSuchElementException.class, () -> x.best(20));
        for (int bad : new int[] {-1, 21, Integer.MIN_VALUE, Integer.MAX_VALUE}) {
            Check.thrown(x, "22: rank", IllegalArgumentException.class, () -> x.best(bad));
        }
        Check.due("23: not a model", x.weightOf(16), 6L);
        for (int bad : new int[] {32, -1, Integer.MIN_VALUE, Integer.MAX_VALUE}) {
            Check.thrown(x, "23: assignment", IllegalArgumentException.class, () -> x.weightOf(bad));
        }
    }

    private static void lucky() {
        Watched x = Check.with(3);
        x.addBound(7, 1, 2);
        x.setWeights(0, 1, 2);
        x.setWeights(1, 3, 0);
        // In the order of coming: 001 weighs 3, 010 and 011 nothing, 100 and 101 6 each, 110 nothing.
        int[] want = {4, 4, 4, 1, 1, 1, 1, 1, 1, 5, 5, 5, 5, 5, 5};
        for (int luck = 0; luck < want.length; luck++) {
            Check.due("24: lucky(" + luck + ")", x.lucky(luck), want[luck]);
        }
        for (long bad : new long[] {-1L, 15L, 1L << 32, Long.MIN_VALUE, Long.MAX_VALUE}) {
            Check.thrown(x, "24: luck", IllegalArgumentException.class, () -> x.lucky(bad));
        }
    }

    private static void first() {
        Watched x = Check.with(4);
        Check.due("25: all false", x.first(), 0);
        x.addClause(15, 0);
        Check.due("25: the highest is true", x.first(), 8);
        x.setWeights(3, 1, 0);
        Check.due("25: whatever the weights", x.first(), 8);
        x.setEvidence(3, 0);
        Check.due("25: the next", x.first(), 4);
        x.addBound(7, 3, 3);
        Check.due("25: the only one", x.first(), 7);
        x.setEvidence(3, 1);
        Check.due("25: all true", x.first(), 15);
    }

    private static void withoutModels() {
        Watched x = Check.with(2);
        x.addParity(3, 0);
        x.addParity(3, 1);
        Check.due("11: none", x.models() + x.modelsByAll() + x.weight(), 0L);
        Check.thrown(x, "22: none", NoSuchElementException.class, () -> x.best(0));
        Check.thrown(x, "22: none, wrong rank", IllegalArgumentException.class, () -> x.best(21));
        Check.thrown(x, "24: none", IllegalArgumentException.class, () -> x.lucky(0L));
        Check.thrown(x, "25: none", NoSuchElementException.class, x::first);
        Check.thrown(x, "15: none", NoSuchElementException.class, () -> x.chanceTop(0));
        Check.thrown(x, "15: none, no variable", IndexOutOfBoundsException.class, () -> x.chanceTop(2));
        Check.thrown(x, "16: none, no variable", IndexOutOfBoundsException.class, () -> x.chanceBottom(-1));
        Check.due("39: none", x.density(), 0.0f);
    }
}
