/**
 * What was asked before changes no answer: each call that only asks is made, then one that changes
 * something, then each call that only asks; the answer is that of an object which was not asked before.
 */
public final class AskedBeforeTest {
    /** A call of the face on an object. */
    private interface Made {
        Object on(Watched x);
    }

    private static final Made[] ASKED = {
        x -> x.kind(0), x -> x.holds(0, 3), Watched::models, Watched::modelsByAll, Watched::weight,
        x -> x.weightWith(0, 1), x -> x.weightWith(3, 0), x -> x.chanceTop(2), x -> x.chanceBottom(2),
        x -> x.projected(0), x -> x.projected(7), x -> x.implied(0), x -> x.implied(3), Watched::parts,
        x -> x.partOf(2), x -> x.partOf(3), x -> x.modelsOfPart(1), x -> x.modelsOfPart(3), x -> x.best(0),
        x -> x.best(3), x -> x.weightOf(5), x -> x.lucky(0L), x -> x.lucky(23L), Watched::first, Watched::nodes,
        x -> x.nodesFor(1), x -> x.nodesFor(3), Watched::ways, x -> x.orderAt(1), x -> x.nodesOf(0),
        x -> x.nodesOf(1), x -> x.modelsOf(0), x -> x.modelsOf(2), x -> x.areSame(0, 1), x -> x.isWithin(2, 1),
        Watched::density, Watched::meanTrue,
    };

    private static final Made[] CHANGES = {
        x -> x, Watched::addVariable, x -> x.setWeights(0, 1, 9), x -> x.setWeights(3, 0, 0), x -> x.addClause(3, 8),
        x -> x.addParity(6, 1), x -> x.addBound(15, 1, 1), x -> x.drop(0), x -> x.drop(1), x -> x.setEvidence(0, 1),
        x -> x.setEvidence(2, 0), x -> x.setEvidence(3, -1), x -> x.setEvidence(3, 0), x -> x.exchange(1, 3),
        x -> x.keep(0), x -> x.keep(1), x -> x.join(1, 2, 'x', 0), x -> x.join(0, 1, 'o', 2), x -> x.fix(0, 1, 1),
        x -> x.fix(2, 3, 0), x -> x.free(1, 0), x -> x.addVariable() + x.keep(0),
    };

    private AskedBeforeTest() {
    }

    /** Two constraints, evidence and weights, three slots of which each keeps something else. */
    private static Watched start() {
        Watched x = Check.with(4);
        x.setWeights(0, 2, 3);
        x.setWeights(2, 5, 1);
        x.setEvidence(1, 1);
        x.keep(2);
        x.setEvidence(1, -1);
        x.addClause(6, 1);
        x.keep(1);
        x.addParity(13, 1);
        x.setEvidence(3, 1);
        x.keep(0);
        return x;
    }

    public static void main(String[] args) {
        int different = 0;
        for (int change = 0; change < CHANGES.length; change++) {
            for (int asked = 0; asked < ASKED.length; asked++) {
                Object due = answerAfter(-1, change, asked);
                different += due.equals(answerAfter(-1, 0, asked)) ? 0 : 1;
                for (int before = 0; before < ASKED.length; before++) {
                    Object got = answerAfter(before, change, asked);
                    if (!due.equals(got)) {
                        Check.due("asked " + before + ", changed " + change + ", asked " + asked, got, due);
                    }
                }
            }
        }
        Check.due("answers that a change makes others", different > 150, true);
        Check.end();
    }

    private static Object answerAfter(int before, int change, int asked) {
        Watched x = start();
        if (before >= 0) {
            Check.answerOf(() -> ASKED[before].on(x));
        }
        CHANGES[change].on(x);
        return Check.answerOf(() -> ASKED[asked].on(x));
    }
}
