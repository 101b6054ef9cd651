import java.lang.management.ManagementFactory;

/** The room for all calls of one run is small: an object, and the calls that it is used for, make little. */
public final class RoomTest {
    private static final com.sun.management.ThreadMXBean BEAN =
            (com.sun.management.ThreadMXBean) ManagementFactory.getThreadMXBean();

    private static final int ROUNDS = 12;
    private static final long MOST_BYTES = 1_000_000;

    public static void main(String[] args) {
        answerAll(full());
        long before = BEAN.getCurrentThreadAllocatedBytes();
        Countfall x = full();
        long sum = 0;
        for (int round = 0; round < ROUNDS; round++) {
            sum += answerAll(x);
        }
        long made = BEAN.getCurrentThreadAllocatedBytes() - before;
        Check.due("bytes of an object and its calls, over " + MOST_BYTES, Math.max(0, made - MOST_BYTES), 0L);
        Check.due("the rounds answered", sum != 0, true);
        Check.end();
    }

    private static Countfall full() {
        Countfall x = new Countfall();
        for (int i = 0; i < 10; i++) {
            x.addVariable();
        }
        for (int i = 0; i < 20; i++) {
            x.addClause(7 << i % 8, 1 << i % 10);
        }
        return x;
    }

    /** 36 calls. */
    private static long answerAll(Countfall x) {
        long sum = x.setWeights(0, 1, 2) + x.setEvidence(3, 1) + x.setEvidence(3, -1) + x.kind(4);
        sum += x.models() + x.modelsByAll() + x.weight() + x.weightWith(1, 1) + x.chanceTop(2) + x.chanceBottom(2);
        sum += x.projected(85) + x.implied(0) + x.parts() + x.partOf(9) + x.modelsOfPart(9) + x.best(20);
        sum += x.weightOf(77) + x.lucky(0) + x.first() + x.nodes() + x.nodesFor(5) + x.ways() + x.exchange(2, 8);
        sum += x.orderAt(2) + x.keep(0) + x.keep(1) + x.fix(0, 1, 1) + x.free(1, 1) + x.join(0, 1, 'x', 2);
        sum += x.nodesOf(2) + x.modelsOf(2) + (x.areSame(0, 1) ? 1 : 0) + (x.isWithin(0, 1) ? 1 : 0);
        return sum + (long) x.density() + (long) x.meanTrue() + (x.holds(3, 4) ? 1 : 0);
    }
}
