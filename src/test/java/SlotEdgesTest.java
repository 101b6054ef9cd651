/** Promises 31 to 38 sentence by sentence: the first and the last slot, nothing kept, all and none, older sets. */
public final class SlotEdgesTest {
    private static final String ALL = "11111111";
    private static final String NONE = "00000000";
    /** Of three variables: 0 is true, 1 is true, 2 is true, an odd number is true. */
    private static final String[] KEPT = {"01010101", "00110011", "00001111", "01101001"};

    public static void main(String[] args) {
        nothingAtFirst();
        keepInEach();
        keepAllAndNone();
        keepInPlaceOfAnother();
        keptStays();
        wrongSlots();
        joinEach();
        joinAllAndNone();
        wrongWays();
        fixEach();
        fixAllAndNone();
        freeEach();
        freeAllAndNone();
        wrongValuesAndVariables();
        tenVariables();
        nodesByTheOrderNow();
        modelsOf();
        areSameAndIsWithin();
        lastAssignment();
        olderSets();
        olderSetsStay();
        olderInto();
        unlikeOnes();
        withoutVariables();
        Check.end();
    }

    /** Three variables, and in a slot a set that is told by its answers from assignment 0 to 7. */
    private static void put(Watched x, int slot, String set) {
        for (int i = 0; i < 20; i++) {
            int number = i;
            Check.answerOf(() -> x.drop(number));
        }
        for (int assignment = 0; assignment < 8; assignment++) {
            if (set.charAt(assignment) == '0') {
                x.addClause(7 ^ assignment, assignment);
            }
        }
        x.keep(slot);
    }

    private static Watched of(String set) {
        Watched x = Check.with(3);
        put(x, 0, set);
        return x;
    }

    /** Slots 0 to 3 keep the four sets. */
    private static Watched four() {
        Watched x = Check.with(3);
        for (int slot = 0; slot < 3; slot++) {
            x.setEvidence(slot, 1);
            x.keep(slot);
            x.setEvidence(slot, -1);
        }
        x.addParity(7, 1);
        x.keep(3);
        x.drop(0);
        return x;
    }

    private static String setOf(int number) {
        StringBuilder set = new StringBuilder();
        for (int assignment = 0; assignment < 8; assignment++) {
            set.append(number >> assignment & 1);
        }
        return set.toString();
    }

    private static long countOnes(String set) {
        return set.chars().filter(c -> c == '1').count();
    }

    /** What a slot keeps now, read on an object of its own. */
    private static void dueContent(String what, Watched x, int slot, String want) {
        Check.due(what, Look.content(Watched.after(x.answered()), slot, 3), want);
        Check.due(what + ", how many", x.modelsOf(slot), countOnes(want));
    }

    private static void nothingAtFirst() {
        for (int i = 0; i < 4; i++) {
            int slot = i;
            int full = slot == 0 ? 3 : 0;
            Watched x = Check.with(3);
            x.keep(full);
            Check.thrown(x, "32: first", Check.NOTHING, () -> x.join(slot, full, 'a', full));
            Check.thrown(x, "32: second", Check.NOTHING, () -> x.join(full, slot, 'o', full));
            Check.thrown(x, "32: both", Check.NOTHING, () -> x.join(slot, slot, 'x', full));
            Check.thrown(x, "33: nothing", Check.NOTHING, () -> x.fix(slot, 0, 0));
            Check.thrown(x, "34: nothing", Check.NOTHING, () -> x.free(slot, 2));
            Check.thrown(x, "35: nothing", Check.NOTHING, () -> x.nodesOf(slot));
            Check.thrown(x, "36: nothing", Check.NOTHING, () -> x.modelsOf(slot));
            Check.thrown(x, "37: first", Check.NOTHING, () -> x.areSame(slot, full));
            Check.thrown(x, "37: second", Check.NOTHING, () -> x.areSame(full, slot));
            Check.thrown(x, "37: both", Check.NOTHING, () -> x.areSame(slot, slot));
            Check.thrown(x, "38: first", Check.NOTHING, () -> x.isWithin(slot, full));
            Check.thrown(x, "38: second", Check.NOTHING, () -> x.isWithin(full, slot));
            Check.thrown(x, "38: both", Check.NOTHING, () -> x.isWithin(slot, slot));
            x.join(full, full, 'x', slot);
            Check.due("36: none is not nothing", x.modelsOf(slot), 0L);
            x.addVariable();
            int empty = slot == 1 ? 2 : 1;
            Check.thrown(x, "32: nothing and older", Check.NOTHING, () -> x.join(empty, full, 'a', full));
            Check.thrown(x, "32: older and nothing", Check.NOTHING, () -> x.join(full, empty, 'a', full));
            Check.thrown(x, "37: older and nothing", Check.NOTHING, () -> x.areSame(full, empty));
            Check.thrown(x, "38: nothing and older", Check.NOTHING, () -> x.isWithin(empty, full));
            Check.thrown(x, "33: nothing", Check.NOTHING, () -> x.fix(empty, 3, 1));
            Check.thrown(x, "34: nothing", Check.NOTHING, () -> x.free(empty, 3));
            Check.thrown(x, "35: nothing", Check.NOTHING, () -> x.nodesOf(empty));
        }
    }

    private static void keepInEach() {
        Watched x = four();
        int[] nodes = {1, 1, 1, 5};
        for (int slot = 0; slot < 4; slot++) {
            dueContent("31: slot " + slot, x, slot, KEPT[slot]);
            Check.due("35: slot " + slot, x.nodesOf(slot), nodes[slot]);
        }
        for (int slot = 0; slot < 4; slot++) {
            Watched y = Check.with(3);
            y.addParity(7, 1);
            Check.due("31: slot " + slot + " alone", y.keep(slot), 5);
            for (int other = 0; other < 4; other++) {
                int empty = other;
                if (empty != slot) {
                    Check.due("31: no other one", Check.answerOf(() -> y.modelsOf(empty)), Check.NOTHING);
                }
            }
        }
    }

    private static void keepAllAndNone() {
        for (int variables : new int[] {1, 3, 10}) {
            Watched x = Check.with(variables);
            Check.due("31: all", x.keep(0), 0);
            Check.due("36: all", x.modelsOf(0), 1L << variables);
            x.addParity(1, 0);
            x.addParity(1, 1);
            Check.due("31: none", x.keep(3), 0);
            Check.due("36: none", x.modelsOf(3), 0L);
            Check.due("35: all and none", x.nodesOf(0) + x.nodesOf(3), 0);
            Check.due("37: all and none", x.areSame(0, 3), false);
            Check.due("38: none in all", x.isWithin(3, 0), true);
            Check.due("38: all in none", x.isWithin(0, 3), false);
        }
    }

    private static void keepInPlaceOfAnother() {
        Watched x = Check.with(3);
        x.keep(1);
        x.setEvidence(2, 1);
        Check.due("31: fewer", x.keep(1), 1);
        dueContent("31: fewer", x, 1, KEPT[2]);
        x.setEvidence(2, 0);
        Check.due("31: others", x.keep(1), 1);
        dueContent("31: others", x, 1, "11110000");
        x.setEvidence(2, -1);
        Check.due("31: more", x.keep(1), 0);
        dueContent("31: more", x, 1, ALL);
        x.setWeights(0, 0, 0);
        Check.due("31: whatever the weights", x.keep(1), 0);
        dueContent("31: whatever the weights", x, 1, ALL);
    }

    /** A kept set is not that of the models any more. */
    private static void keptStays() {
        Watched x = Check.with(3);
        x.addParity(7, 1);
        x.keep(3);
        x.setEvidence(0, 1);
        x.addClause(6, 0);
        x.drop(0);
        x.setWeights(1, 0, 0);
        dueContent("31: it stays", x, 3, KEPT[3]);
        Check.due("26: the models are others", x.nodes(), 3);
        x.fix(3, 0, 0);
        Check.due("11: the models stay", x.models() * 10 + x.modelsByAll(), 33L);
        Check.due("26: the models stay", x.nodes(), 3);
        x.keep(0);
        x.fix(0, 0, 1);
        x.free(0, 1);
        Check.due("12: the models stay", x.modelsByAll(), 3L);
        Check.due("31: kept again", x.keep(1), 3);
        Check.due("36: another slot", x.modelsOf(0), 8L);
    }

    private static void wrongSlots() {
        Watched x = four();
        Watched y = four();
        Watched z = Check.with(3);
        for (int bad : Check.outside(0, 3)) {
            Check.thrown(x, "31: slot " + bad, Check.ARGUMENT, () -> x.keep(bad));
            Check.thrown(x, "32: slot " + bad, Check.ARGUMENT, () -> x.join(bad, 1, 'a', 2));
            Check.thrown(x, "32: other " + bad, Check.ARGUMENT, () -> x.join(0, bad, 'o', 2));
            Check.thrown(x, "32: into " + bad, Check.ARGUMENT, () -> x.join(0, 1, 'x', bad));
            Check.thrown(x, "32: each " + bad, Check.ARGUMENT, () -> x.join(bad, bad, 'x', bad));
            Check.thrown(x, "33: slot " + bad, Check.ARGUMENT, () -> x.fix(bad, 0, 0));
            Check.thrown(x, "34: slot " + bad, Check.ARGUMENT, () -> x.free(bad, 0));
            Check.thrown(y, "35: slot " + bad, Check.ARGUMENT, () -> y.nodesOf(bad));
            Check.thrown(y, "36: slot " + bad, Check.ARGUMENT, () -> y.modelsOf(bad));
            Check.thrown(y, "37: slot " + bad, Check.ARGUMENT, () -> y.areSame(bad, 0));
            Check.thrown(y, "37: other " + bad, Check.ARGUMENT, () -> y.areSame(3, bad));
            Check.thrown(y, "37: both " + bad, Check.ARGUMENT, () -> y.areSame(bad, bad));
            Check.thrown(y, "38: slot " + bad, Check.ARGUMENT, () -> y.isWithin(bad, 0));
            Check.thrown(y, "38: other " + bad, Check.ARGUMENT, () -> y.isWithin(3, bad));
            Check.thrown(y, "38: both " + bad, Check.ARGUMENT, () -> y.isWithin(bad, bad));
            Check.thrown(z, "32: slot, and nothing kept", Check.ARGUMENT, () -> z.join(bad, 0, 'a', 0));
            Check.thrown(z, "32: other, and nothing kept", Check.ARGUMENT, () -> z.join(0, bad, 'a', 0));
            Check.thrown(z, "32: into, and nothing kept", Check.ARGUMENT, () -> z.join(0, 0, 'a', bad));
            Check.thrown(z, "33: slot and variable", Check.ARGUMENT, () -> z.fix(bad, 3, 0));
            Check.thrown(z, "34: slot and variable", Check.ARGUMENT, () -> z.free(bad, -1));
            Check.thrown(z, "37: slot, and nothing kept", Check.ARGUMENT, () -> z.areSame(0, bad));
            Check.thrown(z, "37: slot, and nothing kept", Check.ARGUMENT, () -> z.areSame(bad, 0));
            Check.thrown(z, "38: slot, and nothing kept", Check.ARGUMENT, () -> z.isWithin(0, bad));
            Check.thrown(z, "38: slot, and nothing kept", Check.ARGUMENT, () -> z.isWithin(bad, 0));
        }
    }

    private static String joined(String one, String two, char how) {
        StringBuilder joined = new StringBuilder();
        for (int assignment = 0; assignment < 8; assignment++) {
            int count = one.charAt(assignment) + two.charAt(assignment) - 2 * '0';
            joined.append(how == 'a' ? count / 2 : how == 'o' ? (count + 1) / 2 : count % 2);
        }
        return joined.toString();
    }

    /** Each slot with each other one, or the same, into each: the others stay. */
    private static void joinEach() {
        for (int call = 0; call < 192; call++) {
            int slot = call & 3;
            int other = call >> 2 & 3;
            int into = call >> 4 & 3;
            char how = "aox".charAt(call >> 6);
            String what = "32: join(" + slot + ", " + other + ", " + how + ", " + into + ")";
            Watched x = four();
            int nodes = x.join(slot, other, how, into);
            Check.due(what, nodes, x.nodesOf(into));
            String due = joined(KEPT[slot], KEPT[other], how);
            for (int i = 0; i < 4; i++) {
                dueContent(what + ", slot " + i, x, i, i == into ? due : KEPT[i]);
            }
            Check.due(what + ", nodes", nodes, of(due).nodesOf(0));
            Check.due(what + ", the models stay", x.models() * 10 + x.modelsByAll(), 88L);
        }
        Watched y = four();
        Check.due("32: both", y.join(0, 1, 'a', 3), 2);
        Check.due("32: one or both", y.join(0, 2, 'o', 3), 2);
        Check.due("32: just one", y.join(1, 2, 'x', 3), 3);
    }

    private static void joinAllAndNone() {
        Watched x = Check.with(3);
        x.keep(0);
        x.join(0, 0, 'x', 1);
        x.setEvidence(1, 1);
        x.keep(2);
        dueContent("32: none", x, 1, NONE);
        Check.due("32: all in both", x.join(0, 2, 'a', 3), 1);
        dueContent("32: all in both", x, 3, KEPT[1]);
        Check.due("32: all in one", x.join(2, 0, 'o', 3), 0);
        dueContent("32: all in one", x, 3, ALL);
        Check.due("32: just one of all", x.join(2, 0, 'x', 3), 1);
        dueContent("32: just one of all", x, 3, "11001100");
        Check.due("32: none in both", x.join(2, 1, 'a', 3), 0);
        dueContent("32: none in both", x, 3, NONE);
        Check.due("32: none in one", x.join(1, 2, 'o', 3), 1);
        dueContent("32: none in one", x, 3, KEPT[1]);
        Check.due("32: just one of none", x.join(1, 2, 'x', 3), 1);
        dueContent("32: just one of none", x, 3, KEPT[1]);
        Check.due("32: all and none", x.join(0, 1, 'x', 0), 0);
        dueContent("32: all and none", x, 0, ALL);
    }

    private static void wrongWays() {
        char[] bad = {
            0, 1, ' ', '0', 'A', 'O', 'X', '`', 'b', 'n', 'p', 'w', 'y', 'k', 't', 'f', '-', 127, 'a' + 128, 'a' + 256,
            'o' + 256, 'x' + 256, 'a' + 32768, 65535,
        };
        Watched x = four();
        Watched y = Check.with(3);
        y.keep(0);
        y.addVariable();
        for (char how : bad) {
            Check.thrown(x, "32: way " + (int) how, Check.ARGUMENT, () -> x.join(0, 1, how, 2));
            Check.thrown(y, "32: way, and nothing kept", Check.ARGUMENT, () -> y.join(1, 2, how, 3));
            Check.thrown(y, "32: way, and older", Check.ARGUMENT, () -> y.join(0, 0, how, 0));
        }
    }

    /** "An assignment belongs to it then if, with this value in place of its own, it belonged to it": all 256 sets. */
    private static void fixEach() {
        for (int number = 0; number < 256; number++) {
            String set = setOf(number);
            for (int variable = 0; variable < 3; variable++) {
                for (int value = 0; value <= 1; value++) {
                    StringBuilder due = new StringBuilder();
                    for (int assignment = 0; assignment < 8; assignment++) {
                        due.append(set.charAt(assignment & ~(1 << variable) | value << variable));
                    }
                    Watched x = of(set);
                    String what = "33: fix(0, " + variable + ", " + value + ") of " + set;
                    Check.due(what, x.fix(0, variable, value), of(due.toString()).nodesOf(0));
                    dueContent(what, x, 0, due.toString());
                }
            }
        }
    }

    private static void fixAllAndNone() {
        Watched x = of(ALL);
        put(x, 3, NONE);
        for (int variable = 0; variable < 3; variable++) {
            Check.due("33: all", x.fix(0, variable, 1), 0);
            Check.due("33: none", x.fix(3, variable, 0), 0);
        }
        dueContent("33: all", x, 0, ALL);
        dueContent("33: none", x, 3, NONE);
        Watched y = of("10000000");
        Check.due("33: its value", y.fix(0, 0, 0), 2);
        dueContent("33: its value", y, 0, "11000000");
        Check.due("33: its value again", y.fix(0, 0, 0), 2);
        Check.due("33: the other one changes nothing now", y.fix(0, 0, 1), 2);
        dueContent("33: the other one", y, 0, "11000000");
        Check.due("33: the other one of 2", y.fix(0, 2, 1), 0);
        dueContent("33: the other one of 2", y, 0, NONE);
    }

    /** "If it belonged to it with one of both values": all 256 sets. */
    private static void freeEach() {
        for (int number = 0; number < 256; number++) {
            String set = setOf(number);
            for (int variable = 0; variable < 3; variable++) {
                StringBuilder due = new StringBuilder();
                for (int assignment = 0; assignment < 8; assignment++) {
                    boolean belongs = set.charAt(assignment) == '1' || set.charAt(assignment ^ 1 << variable) == '1';
                    due.append(belongs ? 1 : 0);
                }
                Watched x = of(set);
                String what = "34: free(0, " + variable + ") of " + set;
                Check.due(what, x.free(0, variable), of(due.toString()).nodesOf(0));
                dueContent(what, x, 0, due.toString());
            }
        }
    }

    private static void freeAllAndNone() {
        Watched x = of(ALL);
        put(x, 3, NONE);
        put(x, 2, "00000001");
        for (int variable = 0; variable < 3; variable++) {
            Check.due("34: all", x.free(0, variable), 0);
            Check.due("34: none", x.free(3, variable), 0);
            Check.due("34: one", x.free(2, variable), 2 - variable);
        }
        dueContent("34: all", x, 0, ALL);
        dueContent("34: none", x, 3, NONE);
        dueContent("34: one freed of all", x, 2, ALL);
    }

    private static void wrongValuesAndVariables() {
        Watched x = four();
        Watched y = four();
        y.addVariable();
        Watched z = new Watched();
        for (int bad : Check.outside(0, 1)) {
            Check.thrown(x, "33: value " + bad, Check.ARGUMENT, () -> x.fix(0, 0, bad));
            Check.thrown(x, "33: value " + bad, Check.ARGUMENT, () -> x.fix(3, 2, bad));
            Check.thrown(x, "33: value and variable", Check.ARGUMENT, () -> x.fix(3, 3, bad));
            Check.thrown(y, "33: value, older", Check.ARGUMENT, () -> y.fix(3, 3, bad));
            Check.thrown(z, "33: value, variable, nothing", Check.ARGUMENT, () -> z.fix(0, 0, bad));
        }
        for (int bad : Check.outside(0, 2)) {
            Check.thrown(x, "33: variable " + bad, Check.INDEX, () -> x.fix(0, bad, 0));
            Check.thrown(x, "34: variable " + bad, Check.INDEX, () -> x.free(3, bad));
            Check.thrown(z, "33: variable " + bad + ", nothing kept", Check.INDEX, () -> z.fix(0, bad, 0));
            Check.thrown(z, "34: variable " + bad + ", nothing kept", Check.INDEX, () -> z.free(3, bad));
        }
        for (int bad : Check.outside(0, 3)) {
            Check.thrown(y, "33: variable " + bad + ", older", Check.INDEX, () -> y.fix(0, bad, 1));
            Check.thrown(y, "34: variable " + bad + ", older", Check.INDEX, () -> y.free(3, bad));
        }
        Check.thrown(y, "33: a variable that it has not", Check.UNLIKE, () -> y.fix(0, 3, 1));
        Check.thrown(y, "34: a variable that it has not", Check.UNLIKE, () -> y.free(0, 3));
    }

    private static void tenVariables() {
        Watched x = Check.with(10);
        x.addParity(1023, 1);
        x.keep(0);
        x.keep(1);
        x.keep(2);
        Check.due("33: the first of ten", x.fix(0, 0, 1), 17);
        Check.due("33: the last of ten", x.fix(1, 9, 1), 17);
        Check.due("36: half", x.modelsOf(0) + x.modelsOf(1), 1024L);
        Check.due("32: they differ if 0 and 9 do", x.join(0, 1, 'x', 3), 3);
        Check.due("36: half", x.modelsOf(3), 512L);
        Check.due("34: the last of ten", x.free(2, 9), 0);
        Check.due("36: all", x.modelsOf(2), 1024L);
        for (int variable = 1; variable < 10; variable++) {
            Check.due("33: one after the other", x.fix(0, variable, 0), variable == 9 ? 0 : 17 - 2 * variable);
        }
        Check.due("36: 0 is true, so all", x.modelsOf(0), 1024L);
        x.addBound(1023, 10, 10);
        x.drop(0);
        x.keep(0);
        for (int variable = 9; variable >= 0; variable--) {
            Check.due("34: one after the other", x.free(0, variable), variable);
            Check.due("36: twice as many", x.modelsOf(0), 512L >> variable << 1);
        }
    }

    private static void nodesByTheOrderNow() {
        Watched x = Check.with(6);
        x.addParity(9, 0);
        x.addParity(18, 0);
        x.addParity(36, 0);
        Check.due("31: apart", x.keep(0), 21);
        x.drop(0);
        x.drop(1);
        x.drop(2);
        Check.due("35: apart", x.nodesOf(0), 21);
        Check.due("29: of the models", x.exchange(1, 3), 0);
        Check.due("29: of the models", x.exchange(2, 4), 0);
        Check.due("29: of the models", x.exchange(2, 3), 0);
        Check.due("35: neighbours", x.nodesOf(0), 9);
        Check.due("32: neighbours", x.join(0, 0, 'o', 3), 9);
        Check.due("33: neighbours", x.fix(3, 0, 1), 7);
        Check.due("34: neighbours", x.free(3, 1), 4);
        Check.due("36: whatever the order", x.modelsOf(0), 8L);
        x.exchange(0, 5);
        Check.due("35: of another order", x.nodesOf(0), 21);
    }

    private static void modelsOf() {
        for (int number = 0; number < 256; number += 5) {
            Check.due("36: set " + number, of(setOf(number)).modelsOf(0), (long) Integer.bitCount(number));
        }
        Watched x = Check.with(3);
        x.setEvidence(1, 0);
        x.keep(3);
        for (int variables = 3; variables <= 10; variables++) {
            Check.due("36: as many as when it was made", x.modelsOf(3), 4L);
            if (variables < 10) {
                x.addVariable();
            }
        }
        x.keep(3);
        Check.due("36: as many as there are now", x.modelsOf(3), 512L);
    }

    private static void areSameAndIsWithin() {
        for (int pair = 0; pair < 256; pair++) {
            String one = setOf(pair & 15 | 240);
            String two = setOf(pair >> 4 | 240);
            boolean isWithin = (pair & 15 & ~(pair >> 4)) == 0;
            Watched x = Check.with(3);
            put(x, 1, one);
            put(x, 3, two);
            Check.due("37: " + one + " and " + two, x.areSame(1, 3), one.equals(two));
            Check.due("37: " + two + " and " + one, x.areSame(3, 1), one.equals(two));
            Check.due("38: " + one + " in " + two, x.isWithin(1, 3), isWithin);
            Check.due("38: in itself", x.isWithin(1, 1) && x.isWithin(3, 3), true);
            Check.due("37: with itself", x.areSame(1, 1) && x.areSame(3, 3), true);
        }
        Watched x = four();
        for (int slot = 0; slot < 4; slot++) {
            for (int other = 0; other < 4; other++) {
                Check.due("37: " + slot + ", " + other, x.areSame(slot, other), slot == other);
                Check.due("38: " + slot + ", " + other, x.isWithin(slot, other), slot == other);
            }
        }
        x.exchange(0, 2);
        x.setEvidence(1, 1);
        x.keep(0);
        Check.due("37: kept at other times, by other orders", x.areSame(0, 1), true);
    }

    private static void lastAssignment() {
        for (int most : new int[] {0, 10}) {
            Watched x = Check.with(10);
            x.keep(0);
            x.addBound(1023, most, most);
            x.keep(1);
            x.join(0, 1, 'x', 2);
            Check.due("36: all but one", x.modelsOf(2), 1023L);
            Check.due("37: all but one", x.areSame(0, 2) || x.areSame(2, 0), false);
            Check.due("38: all but one in all", x.isWithin(2, 0), true);
            Check.due("38: all in all but one", x.isWithin(0, 2), false);
            Check.due("38: the one in the others", x.isWithin(1, 2), false);
            x.join(1, 2, 'a', 3);
            Check.due("36: nothing in both", x.modelsOf(3), 0L);
            x.join(1, 2, 'o', 3);
            Check.due("37: all in one of both", x.areSame(3, 0), true);
        }
    }

    /** "If it has not as many variables as there are now". */
    private static void olderSets() {
        for (int variables = 0; variables < 10; variables++) {
            Watched x = Check.with(variables);
            x.keep(0);
            x.keep(1);
            x.addVariable();
            x.keep(2);
            Check.thrown(x, "35: older", Check.UNLIKE, () -> x.nodesOf(0));
            Check.thrown(x, "33: older", Check.UNLIKE, () -> x.fix(1, 0, 0));
            Check.thrown(x, "34: older", Check.UNLIKE, () -> x.free(1, 0));
            Check.thrown(x, "32: both older", Check.UNLIKE, () -> x.join(0, 1, 'a', 0));
            Check.thrown(x, "32: itself older", Check.UNLIKE, () -> x.join(0, 0, 'o', 3));
            Check.thrown(x, "32: first older", Check.UNLIKE, () -> x.join(0, 2, 'x', 3));
            Check.thrown(x, "32: second older", Check.UNLIKE, () -> x.join(2, 0, 'x', 2));
            Check.thrown(x, "37: first older", Check.UNLIKE, () -> x.areSame(0, 2));
            Check.thrown(x, "37: second older", Check.UNLIKE, () -> x.areSame(2, 1));
            Check.thrown(x, "38: first older", Check.UNLIKE, () -> x.isWithin(1, 2));
            Check.thrown(x, "38: second older", Check.UNLIKE, () -> x.isWithin(2, 0));
            Check.due("36: older", x.modelsOf(0), 1L << variables);
            Check.due("37: both older", x.areSame(0, 1), true);
            Check.due("37: itself older", x.areSame(1, 1), true);
            Check.due("38: both older", x.isWithin(1, 0), true);
            Check.due("35: as there are now", x.nodesOf(2), 0);
        }
    }

    /** An older set stays as it is if it is refused. */
    private static void olderSetsStay() {
        for (int slot = 0; slot < 4; slot++) {
            int old = slot;
            Watched x = four();
            x.addVariable();
            for (int i = 0; i < 8; i++) {
                int variable = i / 2;
                int value = i % 2;
                Check.thrown(x, "33: older, " + variable + " is " + value, Check.UNLIKE, () -> x.fix(old, variable, value));
                Check.thrown(x, "34: older, " + variable, Check.UNLIKE, () -> x.free(old, variable));
                Check.thrown(x, "32: older", Check.UNLIKE, () -> x.join(old, variable, "ox".charAt(value), variable));
            }
            x.keep((old + 1) % 4);
            Check.thrown(x, "32: one older", Check.UNLIKE, () -> x.join(old, (old + 1) % 4, 'o', old));
            Check.thrown(x, "32: one older", Check.UNLIKE, () -> x.join((old + 1) % 4, old, 'x', old));
            Check.thrown(x, "32: one older", Check.UNLIKE, () -> x.join(old, (old + 1) % 4, 'a', (old + 1) % 4));
            Check.due("36: as it was", x.modelsOf(old), 4L);
        }
    }

    /** The slot that a join or a keep fills may have kept anything, or nothing. */
    private static void olderInto() {
        Watched x = Check.with(2);
        x.keep(0);
        x.keep(1);
        x.addVariable();
        x.addParity(7, 1);
        x.keep(2);
        Check.due("32: into an older one", x.join(2, 2, 'a', 0), 5);
        Check.due("36: it is of three now", x.modelsOf(0), 4L);
        Check.due("35: it is of three now", x.nodesOf(0), 5);
        Check.due("37: it is of three now", x.areSame(0, 2), true);
        Check.due("33: it is of three now", x.fix(0, 2, 1), 3);
        Check.due("31: into an older one", x.keep(1), 5);
        Check.due("36: it is of three now", x.modelsOf(1), 4L);
        Check.due("34: it is of three now", x.free(1, 2), 0);
        Check.due("32: into one that kept nothing", x.join(2, 1, 'x', 3), 5);
        Check.due("36: the other half", x.modelsOf(3), 4L);
        Check.due("37: the other half", x.areSame(3, 2), false);
    }

    /** Two older ones may be unlike each other; the number now does not matter to them. */
    private static void unlikeOnes() {
        Watched x = new Watched();
        for (int slot = 0; slot < 4; slot++) {
            x.keep(slot);
            x.addVariable();
        }
        for (int i = 0; i < 4; i++) {
            for (int j = 0; j < 4; j++) {
                int slot = i;
                int other = j;
                if (slot == other) {
                    Check.due("37: like", x.areSame(slot, other), true);
                    Check.due("38: like", x.isWithin(slot, other), true);
                } else {
                    Check.thrown(x, "37: unlike", Check.UNLIKE, () -> x.areSame(slot, other));
                    Check.thrown(x, "38: unlike", Check.UNLIKE, () -> x.isWithin(slot, other));
                }
                Check.thrown(x, "32: not as many as now", Check.UNLIKE, () -> x.join(slot, other, 'a', 0));
            }
            int slot = i;
            Check.due("36: each", x.modelsOf(slot), 1L << slot);
            Check.thrown(x, "35: each", Check.UNLIKE, () -> x.nodesOf(slot));
        }
        Watched y = Check.with(2);
        y.setEvidence(0, 1);
        y.keep(0);
        y.setEvidence(0, -1);
        y.keep(1);
        y.addVariable();
        y.addVariable();
        Check.due("37: older, not the same", y.areSame(0, 1) || y.areSame(1, 0), false);
        Check.due("38: older, within", y.isWithin(0, 1), true);
        Check.due("38: older, not within", y.isWithin(1, 0), false);
    }

    private static void withoutVariables() {
        Watched x = new Watched();
        for (int slot = 0; slot < 4; slot++) {
            Check.due("31: of nothing", x.keep(slot), 0);
            Check.due("36: of nothing", x.modelsOf(slot), 1L);
            Check.due("35: of nothing", x.nodesOf(slot), 0);
        }
        Check.due("32: just one", x.join(0, 1, 'x', 2), 0);
        Check.due("36: none", x.modelsOf(2), 0L);
        Check.due("32: both", x.join(0, 2, 'a', 3), 0);
        Check.due("36: none", x.modelsOf(3), 0L);
        Check.due("32: one or both", x.join(2, 0, 'o', 3), 0);
        Check.due("36: one", x.modelsOf(3), 1L);
        Check.due("37: one and none", x.areSame(2, 3), false);
        Check.due("37: one and one", x.areSame(0, 3), true);
        Check.due("38: none in one", x.isWithin(2, 0) && !x.isWithin(0, 2), true);
        Check.thrown(x, "33: no variable", Check.INDEX, () -> x.fix(0, 0, 0));
        Check.thrown(x, "34: no variable", Check.INDEX, () -> x.free(0, 0));
    }
}
