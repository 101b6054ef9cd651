/** Promises 26 to 30 sentence by sentence: ends alone, the smallest and the greatest circuits, each place of the order. */
public final class CircuitEdgesTest {
    private static final int[] NUMBERS = {0, 1, 2, 9, 10};

    public static void main(String[] args) {
        endForYes();
        endForNo();
        oneNode();
        oneModel();
        allButOne();
        parities();
        bounds();
        greatestCircuit();
        notAskedFor();
        sharedNodes();
        eachOfThree();
        byVariableNotByPlace();
        asTheyAreNow();
        notOfSlots();
        exchangeEach();
        exchangeWithItself();
        exchangeNodes();
        wrongVariables();
        wrongPlaces();
        Check.end();
    }

    private static String order(Watched x, int variables) {
        StringBuilder order = new StringBuilder();
        for (int place = 0; place < variables; place++) {
            order.append(x.orderAt(place));
        }
        return order.toString();
    }

    private static String nodesForEach(Watched x, int variables) {
        StringBuilder nodes = new StringBuilder();
        String gap = "";
        for (int variable = 0; variable < variables; variable++) {
            nodes.append(gap).append(x.nodesFor(variable));
            gap = " ";
        }
        return nodes.toString();
    }

    private static void dueCircuit(String what, Watched x, int nodes, String forEach, long ways) {
        int variables = forEach.isEmpty() ? 0 : forEach.split(" ").length;
        Check.due("28: " + what, x.ways(), ways);
        Check.due("27: " + what, nodesForEach(x, variables), forEach);
        Check.due("26: " + what, x.nodes(), nodes);
    }

    /** "0 if it is an end alone", "1 if it is this end alone". */
    private static void endForYes() {
        Watched x = new Watched();
        dueCircuit("without variables", x, 0, "", 1L);
        for (int variables = 1; variables <= 10; variables++) {
            x.addVariable();
            dueCircuit("all of " + variables, x, 0, "0 0 0 0 0 0 0 0 0 0".substring(0, 2 * variables - 1), 1L);
        }
        x.addBound(1023, 0, 10);
        x.addClause(1, 1);
        dueCircuit("all hold", x, 0, "0 0 0 0 0 0 0 0 0 0", 1L);
    }

    private static void endForNo() {
        for (int variables : new int[] {1, 2, 9, 10}) {
            Watched x = Check.with(variables);
            x.addParity(1, 0);
            x.addParity(1, 1);
            dueCircuit("none", x, 0, "0 0 0 0 0 0 0 0 0 0".substring(0, 2 * variables - 1), 0L);
            x.drop(0);
            x.setEvidence(0, 0);
            dueCircuit("none", x, 0, "0 0 0 0 0 0 0 0 0 0".substring(0, 2 * variables - 1), 0L);
        }
    }

    private static void oneNode() {
        for (int variable = 0; variable < 10; variable++) {
            for (int value = 0; value <= 1; value++) {
                Watched x = Check.with(10);
                x.setEvidence(variable, value);
                Check.due("26: one node", x.nodes(), 1);
                Check.due("27: one node", x.nodesFor(variable), 1);
                Check.due("27: no other one", x.nodesFor(9 - variable), 0);
                Check.due("28: one way", x.ways(), 1L);
            }
        }
        Watched y = Check.with(1);
        y.addClause(1, 0);
        dueCircuit("the only variable", y, 1, "1", 1L);
    }

    private static void oneModel() {
        for (int most : new int[] {0, 10}) {
            Watched x = Check.with(10);
            x.addBound(1023, most, most);
            dueCircuit("one model", x, 10, "1 1 1 1 1 1 1 1 1 1", 1L);
            x.exchange(0, 9);
            dueCircuit("one model", x, 10, "1 1 1 1 1 1 1 1 1 1", 1L);
        }
    }

    private static void allButOne() {
        Watched x = Check.with(10);
        x.addClause(1023, 0);
        dueCircuit("all but one", x, 10, "1 1 1 1 1 1 1 1 1 1", 10L);
        x.drop(0);
        x.addClause(341, 682);
        dueCircuit("all but another one", x, 10, "1 1 1 1 1 1 1 1 1 1", 10L);
    }

    private static void parities() {
        for (int rest = 0; rest <= 1; rest++) {
            Watched x = Check.with(10);
            x.addParity(1023, rest);
            dueCircuit("parity", x, 19, "1 2 2 2 2 2 2 2 2 2", 512L);
            x.drop(0);
            x.addParity(513, rest);
            dueCircuit("of the first and the last", x, 3, "1 0 0 0 0 0 0 0 0 2", 2L);
        }
    }

    /** As many true as false: a node for each number of true ones from which five can still be reached. */
    private static void bounds() {
        Watched x = Check.with(10);
        x.addBound(1023, 5, 5);
        dueCircuit("five of ten", x, 35, "1 2 3 4 5 6 5 4 3 2", 252L);
        x.drop(0);
        x.addBound(1023, 0, 1);
        dueCircuit("at most one", x, 18, "1 2 2 2 2 2 2 2 2 1", 10L);
        x.drop(1);
        x.addBound(1023, 9, 10);
        dueCircuit("at least nine", x, 18, "1 2 2 2 2 2 2 2 2 1", 10L);
    }

    /**
     * The variables 7, 8, 9 choose one of 0 to 6, or that 3 is false. No circuit of ten variables has more
     * nodes: all choices for the first seven lead to nodes of their own, each asking for 7; then there are
     * all functions of two variables and of one that ask for their first one.
     */
    private static void greatestCircuit() {
        Watched x = Check.with(10);
        for (int i = 0; i < 8; i++) {
            int isTrue = (i >> 2 & 1) << 7 | (i >> 1 & 1) << 8 | (i & 1) << 9;
            int isFalse = 896 ^ isTrue;
            x.addClause(i == 7 ? isFalse : isFalse | 1 << i, i == 7 ? isTrue | 8 : isTrue);
        }
        dueCircuit("the greatest", x, 269, "1 2 4 8 16 32 64 128 12 2", 336L);
        Check.due("11: half", x.models() * 10000 + x.modelsByAll(), 5120512L);
        Check.due("31: the greatest", x.keep(3), 269);
        Check.due("32: the greatest", x.join(3, 3, 'a', 0), 269);
        Check.due("35: the greatest", x.nodesOf(0), 269);
        x.exchange(0, 7);
        x.exchange(1, 8);
        Check.due("29: those that choose ahead", x.exchange(2, 9), 15);
        Check.due("30: order", order(x, 10), "7893456012");
        dueCircuit("those that choose ahead", x, 15, "1 1 1 2 1 1 1 1 2 4", 8L);
        Check.due("35: by the order as it is now", x.nodesOf(3), 15);
    }

    /** "No node whose two ways are the same": a way leads past variables that do not matter. */
    private static void notAskedFor() {
        Watched x = Check.with(10);
        x.addClause(513, 0);
        dueCircuit("the first or the last", x, 2, "1 0 0 0 0 0 0 0 0 1", 2L);
        x.addClause(513, 2);
        dueCircuit("1 does not matter", x, 2, "1 0 0 0 0 0 0 0 0 1", 2L);
        x.addClause(512, 2);
        dueCircuit("1 matters if 0 is true", x, 3, "1 1 0 0 0 0 0 0 0 1", 3L);
    }

    /** "No two nodes that ask for the same variable and lead to the same ways". */
    private static void sharedNodes() {
        Watched x = Check.with(4);
        x.addParity(3, 1);
        x.addClause(12, 0);
        dueCircuit("two ways to one node", x, 5, "1 2 1 1", 4L);
        x.drop(0);
        x.addClause(3, 0);
        dueCircuit("again", x, 4, "1 1 1 1", 4L);
        x.addClause(0, 15);
        dueCircuit("not quite the same", x, 7, "1 2 2 2", 6L);
    }

    /** The nodes of all 256 sets of assignments of three variables, counted by what is left after each choice. */
    private static void eachOfThree() {
        for (int set = 0; set < 256; set++) {
            Watched x = Check.with(3);
            for (int assignment = 0; assignment < 8; assignment++) {
                if ((set >> assignment & 1) == 0) {
                    x.addClause(7 ^ assignment, assignment);
                }
            }
            boolean[] seen = new boolean[16];
            boolean[] seenLast = new boolean[4];
            int second = 0;
            int third = 0;
            for (int i = 0; i < 2; i++) {
                int rest = answer(set, i) | answer(set, i | 4) << 1 | answer(set, i | 2) << 2 | answer(set, i | 6) << 3;
                second += !seen[rest] && (rest & 3) != rest >> 2 ? 1 : 0;
                seen[rest] = true;
                for (int last : new int[] {rest & 3, rest >> 2}) {
                    third += !seenLast[last] && (last == 1 || last == 2) ? 1 : 0;
                    seenLast[last] = true;
                }
            }
            int first = 0;
            for (int i = 0; i < 8; i += 2) {
                first |= answer(set, i) != answer(set, i | 1) ? 1 : 0;
            }
            Check.due("26: set " + set, x.nodes(), first + second + third);
            Check.due("27: set " + set, nodesForEach(x, 3), first + " " + second + " " + third);
        }
    }

    private static int answer(int set, int assignment) {
        return set >> assignment & 1;
    }

    /** Three and five are alike; whichever comes first is asked for once, the other one twice. */
    private static void byVariableNotByPlace() {
        Watched x = Check.with(10);
        x.addParity(1 << 3 | 1 << 5, 0);
        dueCircuit("3 first", x, 3, "0 0 0 1 0 2 0 0 0 0", 2L);
        x.exchange(3, 5);
        dueCircuit("5 first", x, 3, "0 0 0 2 0 1 0 0 0 0", 2L);
        x.exchange(3, 9);
        dueCircuit("5 last", x, 3, "0 0 0 1 0 2 0 0 0 0", 2L);
        x.exchange(0, 9);
        dueCircuit("5 first of all", x, 3, "0 0 0 2 0 1 0 0 0 0", 2L);
    }

    /** Terms: "for all models, as they are now". */
    private static void asTheyAreNow() {
        Watched x = Check.with(2);
        x.addParity(3, 1);
        dueCircuit("parity", x, 3, "1 2", 2L);
        x.addVariable();
        dueCircuit("a new variable", x, 3, "1 2 0", 2L);
        x.addClause(4, 0);
        dueCircuit("a new clause", x, 4, "1 2 1", 2L);
        x.setEvidence(0, 1);
        dueCircuit("new evidence", x, 3, "1 1 1", 1L);
        x.drop(0);
        dueCircuit("dropped", x, 2, "1 0 1", 1L);
        x.setEvidence(0, -1);
        dueCircuit("no evidence any more", x, 1, "0 0 1", 1L);
        x.setWeights(2, 1, 0);
        dueCircuit("whatever the weights", x, 1, "0 0 1", 1L);
        x.drop(1);
        dueCircuit("nothing", x, 0, "0 0 0", 1L);
    }

    /** Of the models, also right after a slot's circuit was asked for. */
    private static void notOfSlots() {
        Watched x = Check.with(3);
        x.addParity(7, 1);
        x.keep(0);
        x.drop(0);
        x.addClause(5, 0);
        x.nodesOf(0);
        Check.due("27: of the models", x.nodesFor(1), 0);
        x.nodesOf(0);
        Check.due("28: of the models", x.ways(), 2L);
        x.nodesOf(0);
        Check.due("26: of the models", x.nodes(), 2);
        x.setEvidence(1, 1);
        Check.due("27: at once", x.nodesFor(2), 1);
        x.setEvidence(1, -1);
        Check.due("28: at once", x.ways(), 2L);
        x.setEvidence(0, 0);
        Check.due("28: at once", x.ways(), 1L);
        x.exchange(0, 2);
        x.setEvidence(0, -1);
        Check.due("27: at once", x.nodesFor(0), 1);
    }

    private static void exchangeEach() {
        for (int place = 0; place < 10; place++) {
            Watched x = Check.with(10);
            for (int other = 0; other < 10; other++) {
                x.exchange(place, other);
                Check.due("30: " + place + " by " + other, x.orderAt(place), other);
                Check.due("30: " + other + " by " + place, x.orderAt(other), place);
                x.exchange(other, place);
                Check.due("30: as before", x.orderAt(place) * 10 + x.orderAt(other), place * 10 + other);
            }
            Check.due("30: order", order(x, 10), "0123456789");
        }
        Watched y = Check.with(10);
        y.exchange(0, 9);
        y.exchange(9, 4);
        y.exchange(4, 0);
        Check.due("30: places, not variables", order(y, 10), "0123956784");
    }

    private static void exchangeWithItself() {
        Watched x = Check.with(1);
        x.addParity(1, 1);
        Check.due("29: the only place", x.exchange(0, 0), 1);
        Check.due("30: the only place", x.orderAt(0), 0);
        Watched y = Check.with(10);
        y.addParity(1023, 0);
        for (int place = 0; place < 10; place++) {
            Check.due("29: with itself", y.exchange(place, place), 19);
        }
        Check.due("30: as before", order(y, 10), "0123456789");
    }

    /** "Returns the number of nodes of the circuit of the models then". */
    private static void exchangeNodes() {
        Watched x = Check.with(10);
        for (int i = 0; i < 5; i++) {
            x.addParity(1 << i | 1 << i + 5, 0);
        }
        dueCircuit("pairs apart", x, 93, "1 2 4 8 16 32 16 8 4 2", 32L);
        Check.due("29: 0 beside 5", x.exchange(4, 5), 1 + 2 + 4 + 8 + 16 + 8 + 16 + 8 + 4 + 2);
        Check.due("29: and back", x.exchange(5, 4), 93);
        Check.due("29: one pair", x.exchange(1, 5), 3 + 1 + 2 + 4 + 8 + 16 + 8 + 4 + 2);
        Check.due("29: the order turned round", x.exchange(0, 1), 48);
        x.setEvidence(0, 0);
        Check.due("29: with evidence", x.exchange(0, 1), 2 + 1 + 2 + 4 + 8 + 16 + 8 + 4 + 2);
        x.addParity(1, 1);
        Check.due("29: without models", x.exchange(9, 0), 0);
        Check.due("30: all the same", order(x, 10), "9523416780");
    }

    private static void wrongVariables() {
        for (int variables : NUMBERS) {
            Watched x = Check.with(variables);
            for (int bad : Check.outside(0, variables - 1)) {
                Check.thrown(x, "27: variable " + bad + " of " + variables, Check.INDEX, () -> x.nodesFor(bad));
            }
        }
    }

    private static void wrongPlaces() {
        for (int variables : NUMBERS) {
            Watched x = Check.with(variables);
            if (variables > 0) {
                x.exchange(0, variables - 1);
            }
            for (int bad : Check.outside(0, variables - 1)) {
                Check.thrown(x, "30: place " + bad + " of " + variables, Check.INDEX, () -> x.orderAt(bad));
                Check.thrown(x, "29: place " + bad, Check.INDEX, () -> x.exchange(bad, 0));
                Check.thrown(x, "29: other place " + bad, Check.INDEX, () -> x.exchange(0, bad));
                Check.thrown(x, "29: place " + bad, Check.INDEX, () -> x.exchange(bad, variables - 1));
                Check.thrown(x, "29: other place " + bad, Check.INDEX, () -> x.exchange(variables - 1, bad));
                Check.thrown(x, "29: both places " + bad, Check.INDEX, () -> x.exchange(bad, bad));
            }
        }
    }
}
