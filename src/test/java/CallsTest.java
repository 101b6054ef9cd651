import java.util.ArrayList;
import java.util.List;

/** "An object is used for at most 512 calls after it has been made": the last of them is answered as the first. */
public final class CallsTest {
    /** A call to be made over and over again. */
    private interface Asked {
        Object of(Watched x);
    }

    public static void main(String[] args) {
        eachCallOverAndOver();
        refusedOverAndOver();
        settledAndFreed();
        toldAndDropped();
        weighed();
        exchanged();
        keptAndJoined();
        countedByParts();
        Check.end();
    }

    /** Ten variables of which 0 to 2 are a part and 9 has evidence; slots 0 and 1 are kept. */
    private static Watched busy() {
        Watched x = Check.with(10);
        x.addParity(7, 1);
        x.addClause(8, 16);
        x.addBound(96, 1, 2);
        x.setEvidence(9, 1);
        x.setWeights(0, 2, 3);
        x.keep(0);
        x.drop(1);
        x.keep(1);
        return x;
    }

    private static void over(String what, Asked asked, Object want) {
        Watched x = busy();
        while (x.calls() < Watched.MOST_CALLS) {
            Object got = Check.answerOf(() -> asked.of(x));
            if (!want.equals(got)) {
                Check.due(what + ", call " + x.calls(), got, want);
                return;
            }
        }
    }

    /** 4 choices of 0 to 2, 3 of 5 and 6, 16 of 3, 4, 7 and 8. */
    private static void eachCallOverAndOver() {
        over("3", x -> x.setWeights(0, 2, 3), 23);
        over("8", x -> x.kind(2), 'k');
        over("9", x -> x.setEvidence(9, 1), 1);
        over("10", x -> x.holds(0, 7), true);
        over("11", Watched::models, 192L);
        over("12", Watched::modelsByAll, 192L);
        over("13", Watched::weight, 480L);
        over("14", x -> x.weightWith(0, 1), 288L);
        over("15", x -> x.chanceTop(0), 3L);
        over("16", x -> x.chanceBottom(0), 5L);
        over("17", x -> x.projected(103), 12L);
        over("18", x -> x.implied(9), 't');
        over("19", Watched::parts, 6);
        over("20", x -> x.partOf(6), 5);
        over("21", x -> x.modelsOfPart(2), 4L);
        over("22", x -> x.best(0), 1 + 64 + 512);
        over("23", x -> x.weightOf(1), 3L);
        over("24", x -> x.lucky(479), 7 + 1016);
        over("25", Watched::first, 4 + 64 + 512);
        over("26", Watched::nodes, 8);
        over("27", x -> x.nodesFor(1), 2);
        over("28", Watched::ways, 8L);
        over("29", x -> x.exchange(3, 3), 8);
        over("30", x -> x.orderAt(9), 9);
        over("31", x -> x.keep(3), 8);
        over("32", x -> x.join(0, 1, 'x', 2), 10);
        over("33", x -> x.fix(1, 9, 1), 7);
        over("34", x -> x.free(1, 2), 3);
        over("35", x -> x.nodesOf(0), 10);
        over("36", x -> x.modelsOf(0), 144L);
        over("37", x -> x.areSame(0, 1), false);
        over("38", x -> x.isWithin(0, 1), true);
        over("39", Watched::density, 192.0f / 1024.0f);
        over("40", Watched::meanTrue, 89.0 / 15.0);
    }

    private static void refusedOverAndOver() {
        over("2, an eleventh", Watched::addVariable, Check.STATE);
        over("7, dropped", x -> x.drop(1), Check.STATE);
        over("7, none", x -> x.drop(3), Check.INDEX);
        over("4, empty", x -> x.addClause(0, 0), Check.ARGUMENT);
        over("20, evidence", x -> x.partOf(9), Check.NOTHING);
        over("35, nothing kept", x -> x.nodesOf(3), Check.NOTHING);
        Watched x = Check.with(1);
        while (x.calls() < Watched.MOST_CALLS) {
            int call = x.calls();
            Object got = Check.answerOf(() -> x.addParity(1, 0));
            Check.due("5: call " + call, got, call <= 20 ? (Object) (call - 1) : Check.STATE);
        }
        Watched y = new Watched();
        while (y.calls() < Watched.MOST_CALLS) {
            int call = y.calls();
            Check.due("2: call " + call, Check.answerOf(y::addVariable), call < 10 ? (Object) call : Check.STATE);
        }
    }

    private static void settledAndFreed() {
        Watched x = Check.with(10);
        x.addParity(1023, 0);
        int before = -1;
        for (int turn = 0; x.calls() + 3 <= Watched.MOST_CALLS; turn++) {
            int value = turn % 3 - 1;
            Check.due("9: turn " + turn, x.setEvidence(9, value), before);
            Check.due("11: turn " + turn, x.models(), value == -1 ? 512L : 256L);
            Check.due("25: turn " + turn, x.first(), value == 1 ? 256 + 512 : 0);
            before = value;
        }
    }

    private static void toldAndDropped() {
        Watched x = Check.with(10);
        for (int i = 0; i < 20; i++) {
            Check.due("4: number", x.addClause(1 << i % 10, i < 10 ? 0 : 1 << i % 10), i);
            Check.due("11: told " + i, x.models(), i < 10 ? 512L >> i : 1L);
            Check.due("12: told " + i, x.modelsByAll(), i < 10 ? 512L >> i : 1L);
        }
        for (int i = 19; i >= 0; i--) {
            Check.due("7: dropped " + i, x.drop(i), i);
            Check.due("11: dropped " + i, x.models(), i < 10 ? 1024L >> i : 1L);
        }
        while (x.calls() < Watched.MOST_CALLS) {
            Check.due("12: all", x.modelsByAll(), 1024L);
        }
    }

    private static void weighed() {
        Watched x = Check.with(10);
        int before = 11;
        for (int turn = 0; x.calls() + 3 <= Watched.MOST_CALLS; turn++) {
            int no = turn % 10;
            int yes = turn / 10 % 10;
            Check.due("3: turn " + turn, x.setWeights(4, no, yes), before);
            Check.due("13: turn " + turn, x.weight(), 512L * (no + yes));
            Check.due("23: turn " + turn, x.weightOf(16), (long) yes);
            before = 10 * no + yes;
        }
    }

    private static void exchanged() {
        Watched x = Check.with(10);
        x.addParity(513, 1);
        int[] order = {0, 1, 2, 3, 4, 5, 6, 7, 8, 9};
        for (int turn = 0; x.calls() + 2 <= Watched.MOST_CALLS; turn++) {
            int place = turn * 7 % 10;
            int other = turn * 3 % 9;
            int variable = order[place];
            order[place] = order[other];
            order[other] = variable;
            Check.due("29: turn " + turn, x.exchange(place, other), 3);
            Check.due("30: turn " + turn, x.orderAt(turn % 10), order[turn % 10]);
        }
    }

    private static void keptAndJoined() {
        Watched x = Check.with(10);
        for (int turn = 0; x.calls() + 8 <= Watched.MOST_CALLS; turn++) {
            int variable = turn % 10;
            x.setEvidence(variable, 1);
            Check.due("31: turn " + turn, x.keep(turn % 4), 1);
            x.setEvidence(variable, -1);
            Check.due("33: turn " + turn, x.fix(turn % 4, (variable + 1) % 10, 0), 1);
            Check.due("36: turn " + turn, x.modelsOf(turn % 4), 512L);
            Check.due("32: turn " + turn, x.join(turn % 4, turn % 4, 'x', (turn + 1) % 4), 0);
            Check.due("38: turn " + turn, x.isWithin(turn % 4, (turn + 1) % 4), false);
            Check.due("34: turn " + turn, x.free(turn % 4, variable), 0);
        }
        while (x.calls() < Watched.MOST_CALLS) {
            Check.due("11: the models stay", x.models(), 1024L);
        }
    }

    /** As many parts of different variables, constraints and evidence as 512 calls can make. */
    private static void countedByParts() {
        for (int round = 0; round < 6; round++) {
            Watched x = Check.with(10);
            List<int[]> links = new ArrayList<>();
            for (int i = 0; i < 20; i++) {
                int one = (i * 3 + round) % 10;
                int two = (i * 7 + 1 + i / 10) % 10;
                x.addBound(1 << one | 1 << two | 1 << i % 10, i % 2, 1 + i % 3);
                links.add(new int[] {one, two});
            }
            for (int turn = 0; x.calls() + 3 <= Watched.MOST_CALLS; turn++) {
                if (turn % 8 == 7 && turn / 8 < 18) {
                    x.drop(turn / 8);
                } else {
                    x.setEvidence(links.get(turn % 20)[turn / 20 % 2], (turn * 5 + turn / 3) % 3 - 1);
                }
                Check.due("11: round " + round + ", turn " + turn, x.models(), x.modelsByAll());
            }
        }
    }
}
