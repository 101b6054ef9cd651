/** Promises 1 to 10 sentence by sentence: the least, the greatest, those outside, nothing, all, and what is listed first. */
public final class VariableEdgesTest {
    private static final int[] NUMBERS = {0, 1, 2, 9, 10};

    public static void main(String[] args) {
        newObject();
        twoObjects();
        tenVariables();
        newVariableLeavesTheOthers();
        newVariableLast();
        eachWeight();
        weightsAtFirst();
        wrongWeights();
        eachClauseOfTwo();
        clausesOfAll();
        wrongClauses();
        eachParityOfThree();
        paritiesOfAll();
        wrongParities();
        eachBound();
        boundsOfAll();
        wrongBounds();
        setsThatComeLater();
        twentyConstraints();
        dropEach();
        wrongDrops();
        kinds();
        eachEvidence();
        wrongEvidence();
        holdsInFirstAndLast();
        wrongHolds();
        Check.end();
    }

    private static Watched tell(Watched x, char kind) {
        if (kind == 'o') {
            x.addClause(1, 0);
        } else if (kind == 'x') {
            x.addParity(1, 1);
        } else {
            x.addBound(1, 1, 1);
        }
        return x;
    }

    /** Promise 1: without variables and constraints. */
    private static void newObject() {
        Watched x = new Watched();
        for (int number : new int[] {0, 1, 9, 10, 19, -1}) {
            Check.thrown(x, "1: no weights", Check.INDEX, () -> x.setWeights(number, 1, 1));
            Check.thrown(x, "1: no evidence", Check.INDEX, () -> x.setEvidence(number, 0));
            Check.thrown(x, "1: no place", Check.INDEX, () -> x.orderAt(number));
            Check.thrown(x, "1: nothing to drop", Check.INDEX, () -> x.drop(number));
            Check.thrown(x, "1: no kind", Check.INDEX, () -> x.kind(number));
            Check.thrown(x, "1: nothing holds", Check.INDEX, () -> x.holds(number, 0));
        }
        Check.due("1: models", x.models() + x.modelsByAll() * 10, 11L);
        Check.due("2: the first number", x.addVariable(), 0);
        Check.due("4: the first number", x.addClause(1, 0), 0);
    }

    /** One object knows nothing of another one. */
    private static void twoObjects() {
        Watched x = Check.with(2);
        Watched y = new Watched();
        Check.due("1: another one has its own variables", y.addVariable(), 0);
        y.setWeights(0, 5, 6);
        y.addParity(1, 1);
        y.setEvidence(0, 0);
        y.keep(0);
        Check.due("1: models", x.models() * 10 + y.models(), 40L);
        Check.due("1: modelsByAll", x.modelsByAll() * 10 + y.modelsByAll(), 40L);
        Check.due("1: weights", x.setWeights(0, 2, 2), 11);
        Check.due("1: weights", y.setWeights(0, 5, 6), 56);
        Check.due("1: constraints", x.addClause(3, 0), 0);
        Check.due("1: evidence", x.setEvidence(0, -1), -1);
        Check.due("1: nodes", x.nodes() * 10 + y.nodes(), 20);
        Check.due("1: orders", x.exchange(0, 1) * 10 + y.orderAt(0), 20);
        Check.thrown(x, "1: slots", Check.NOTHING, () -> x.modelsOf(0));
    }

    /** Promise 2: "Returns its number", "if there are 10 variables". */
    private static void tenVariables() {
        Watched x = new Watched();
        for (int i = 0; i < 10; i++) {
            Check.due("2: number", x.addVariable(), i);
            Check.due("2: last in the order", x.orderAt(i), i);
            Check.due("2: models", x.models(), 2L << i);
            Check.due("2: modelsByAll", x.modelsByAll(), 2L << i);
        }
        Check.thrown(x, "2: an eleventh", Check.STATE, x::addVariable);
        Check.thrown(x, "2: an eleventh again", Check.STATE, x::addVariable);
        x.exchange(0, 9);
        x.setEvidence(3, 1);
        x.addClause(1023, 1023);
        x.keep(3);
        Check.thrown(x, "2: an eleventh later", Check.STATE, x::addVariable);
        Check.thrown(x, "2: no place for it", Check.INDEX, () -> x.orderAt(10));
        Check.due("2: models", x.models(), 512L);
    }

    private static void newVariableLeavesTheOthers() {
        Watched x = Check.with(2);
        x.setWeights(0, 2, 3);
        x.setWeights(1, 4, 5);
        x.setEvidence(1, 1);
        x.addParity(3, 1);
        x.addClause(1, 0);
        x.drop(1);
        x.keep(2);
        Check.due("11: before", x.models(), 1L);
        Check.due("13: before", x.weight(), 10L);
        Check.due("2: number", x.addVariable(), 2);
        Check.due("11: both values of it", x.models(), 2L);
        Check.due("12: both values of it", x.modelsByAll(), 2L);
        Check.due("13: its weights are 1", x.weight(), 20L);
        Check.due("9: no evidence", x.setEvidence(2, -1), -1);
        Check.due("9: the evidence stays", x.setEvidence(1, 1), 1);
        Check.due("3: weights of 0", x.setWeights(0, 2, 3), 23);
        Check.due("3: weights of 1", x.setWeights(1, 4, 5), 45);
        Check.due("3: its weights", x.setWeights(2, 1, 1), 11);
        Check.due("20: joined to nothing", x.partOf(2), 2);
        Check.due("10: the constraints stay", x.holds(0, 1) && x.holds(0, 5) && !x.holds(0, 7), true);
        Check.due("36: the slot stays", x.modelsOf(2), 1L);
        Check.thrown(x, "7: dropped it stays", Check.STATE, () -> x.drop(1));
    }

    /** Promise 2: "it comes last in the order". */
    private static void newVariableLast() {
        for (int variables = 1; variables < 10; variables++) {
            Watched x = Check.with(variables);
            for (int place = 0; place < variables / 2; place++) {
                x.exchange(place, variables - 1 - place);
            }
            x.addVariable();
            StringBuilder order = new StringBuilder();
            for (int place = 0; place <= variables; place++) {
                order.append(x.orderAt(place));
            }
            Check.due("2: last of " + variables, order.toString(), "9876543210".substring(10 - variables) + variables);
        }
    }

    /** Promise 3: weights from 0 to 9, and "10 times the weight for false before, plus that for true". */
    private static void eachWeight() {
        for (int variable : new int[] {0, 9}) {
            Watched x = Check.with(10);
            int before = 11;
            for (int no = 0; no <= 9; no++) {
                for (int yes = 0; yes <= 9; yes++) {
                    Check.due("3: before " + no + ", " + yes, x.setWeights(variable, no, yes), before);
                    Check.due("23: false", x.weightOf(1023 & ~(1 << variable)), (long) no);
                    Check.due("23: true", x.weightOf(1 << variable), (long) yes);
                    before = 10 * no + yes;
                }
            }
        }
    }

    /** Terms: "both 1 at first". */
    private static void weightsAtFirst() {
        Watched x = Check.with(10);
        for (int variable = 0; variable < 10; variable++) {
            Check.due("3: at first", x.setWeights(variable, variable, 9 - variable), 11);
        }
        for (int variable = 0; variable < 10; variable++) {
            Check.due("3: each has its own", x.setWeights(variable, 1, 1), 9 * variable + 9);
        }
        x.setEvidence(4, 1);
        Check.due("3: with evidence too", x.setWeights(4, 0, 7), 11);
        Check.due("13: with evidence too", x.weight(), 7L * 512);
    }

    private static void wrongWeights() {
        for (int variables : NUMBERS) {
            Watched x = Check.with(variables);
            for (int bad : Check.outside(0, variables - 1)) {
                Check.thrown(x, "3: variable " + bad + " of " + variables, Check.INDEX, () -> x.setWeights(bad, 2, 3));
            }
            Check.thrown(x, "3: variable and weights", Check.INDEX, () -> x.setWeights(variables, -1, 10));
            Check.thrown(x, "3: variable and weight", Check.INDEX, () -> x.setWeights(-1, 10, 0));
            Check.thrown(x, "3: variable and weight", Check.INDEX, () -> x.setWeights(-1, 0, -1));
        }
        Watched x = Check.with(10);
        x.setWeights(0, 2, 3);
        x.setWeights(9, 4, 5);
        for (int bad : Check.outside(0, 9)) {
            Check.thrown(x, "3: weight for false " + bad, Check.ARGUMENT, () -> x.setWeights(0, bad, 9));
            Check.thrown(x, "3: weight for true " + bad, Check.ARGUMENT, () -> x.setWeights(9, 0, bad));
            Check.thrown(x, "3: both weights " + bad, Check.ARGUMENT, () -> x.setWeights(9, bad, bad));
        }
        Check.due("3: the weights stay", x.setWeights(0, 1, 1) * 100 + x.setWeights(9, 1, 1), 2345);
    }

    private static boolean isMetByClause(int variables, int yes, int no, int assignment) {
        boolean isMet = false;
        for (int i = 0; i < variables; i++) {
            boolean isTrue = (assignment >> i & 1) == 1;
            isMet |= isTrue && (yes >> i & 1) == 1;
            isMet |= !isTrue && (no >> i & 1) == 1;
        }
        return isMet;
    }

    /** Promise 4: one set may be empty; "a variable can be in both sets". */
    private static void eachClauseOfTwo() {
        Watched x = Check.with(2);
        int number = 0;
        for (int sets = 1; sets < 16; sets++) {
            int yes = sets >> 2;
            int no = sets & 3;
            Check.due("4: number", x.addClause(yes, no), number);
            Check.due("8: kind", x.kind(number), 'o');
            for (int assignment = 0; assignment < 4; assignment++) {
                Check.due("10: clause(" + yes + ", " + no + ") in " + assignment, x.holds(number, assignment),
                        isMetByClause(2, yes, no, assignment));
            }
            number++;
        }
    }

    private static void clausesOfAll() {
        Watched x = Check.with(10);
        Check.due("4: number", x.addClause(1023, 0), 0);
        Check.due("11: all false is out", x.models(), 1023L);
        Check.due("25: only the last is true", x.first(), 512);
        Check.due("4: number", x.addClause(0, 1023), 1);
        Check.due("11: all true is out", x.models(), 1022L);
        Check.due("4: in both sets", x.addClause(1023, 1023), 2);
        Check.due("11: nothing is out", x.models(), 1022L);
        Check.due("4: the last alone", x.addClause(512, 0), 3);
        Check.due("11: half is out", x.models(), 511L);
        Check.due("4: the first alone", x.addClause(0, 1), 4);
        Check.due("12: a quarter is left", x.modelsByAll(), 256L);
        Watched y = Check.with(1);
        y.addClause(1, 1);
        Check.due("11: always", y.models(), 2L);
        y.addClause(1, 0);
        Check.due("11: true", y.models(), 1L);
        y.addClause(0, 1);
        Check.due("11: never", y.models(), 0L);
    }

    private static void wrongClauses() {
        for (int variables : NUMBERS) {
            Watched x = Check.with(variables);
            int all = (1 << variables) - 1;
            for (int bad : Check.setsOutside(variables)) {
                Check.thrown(x, "4: meant to be true " + bad, Check.ARGUMENT, () -> x.addClause(bad, all));
                Check.thrown(x, "4: meant to be false " + bad, Check.ARGUMENT, () -> x.addClause(all, bad));
                Check.thrown(x, "4: and none false " + bad, Check.ARGUMENT, () -> x.addClause(bad, 0));
                Check.thrown(x, "4: and none true " + bad, Check.ARGUMENT, () -> x.addClause(0, bad));
                Check.thrown(x, "4: both " + bad, Check.ARGUMENT, () -> x.addClause(bad, bad));
            }
            Check.thrown(x, "4: both empty", Check.ARGUMENT, () -> x.addClause(0, 0));
        }
    }

    private static int countTrue(int set) {
        int count = 0;
        for (int i = 0; i < 10; i++) {
            count += set >> i & 1;
        }
        return count;
    }

    /** Promise 5: each set but the empty one, with the rest 0 or 1. */
    private static void eachParityOfThree() {
        Watched x = Check.with(3);
        int number = 0;
        for (int set = 1; set < 8; set++) {
            for (int rest = 0; rest <= 1; rest++) {
                Check.due("5: number", x.addParity(set, rest), number);
                Check.due("8: kind", x.kind(number), 'x');
                for (int assignment = 0; assignment < 8; assignment++) {
                    Check.due("10: parity(" + set + ", " + rest + ") in " + assignment, x.holds(number, assignment),
                            countTrue(set & assignment) % 2 == rest);
                }
                number++;
            }
        }
    }

    private static void paritiesOfAll() {
        for (int rest = 0; rest <= 1; rest++) {
            Watched x = Check.with(10);
            x.addParity(1023, rest);
            Check.due("11: half", x.models(), 512L);
            Check.due("12: half", x.modelsByAll(), 512L);
            Check.due("25: the first", x.first(), rest == 0 ? 0 : 512);
            x.addParity(512, 1 - rest);
            Check.due("11: a quarter", x.models(), 256L);
            Check.due("25: the first", x.first(), rest == 0 ? 256 + 512 : 256);
        }
    }

    private static void wrongParities() {
        for (int variables : NUMBERS) {
            Watched x = Check.with(variables);
            for (int bad : Check.setsOutside(variables)) {
                Check.thrown(x, "5: set " + bad, Check.ARGUMENT, () -> x.addParity(bad, 0));
                Check.thrown(x, "5: set " + bad, Check.ARGUMENT, () -> x.addParity(bad, 1));
            }
            Check.thrown(x, "5: empty", Check.ARGUMENT, () -> x.addParity(0, 0));
            Check.thrown(x, "5: empty", Check.ARGUMENT, () -> x.addParity(0, 1));
            Check.thrown(x, "5: all that is wrong", Check.ARGUMENT, () -> x.addParity(-1, -1));
        }
        Watched x = Check.with(10);
        for (int bad : Check.outside(0, 1)) {
            Check.thrown(x, "5: rest " + bad, Check.ARGUMENT, () -> x.addParity(1023, bad));
            Check.thrown(x, "5: rest " + bad, Check.ARGUMENT, () -> x.addParity(1, bad));
        }
    }

    /** Promise 6: each pair of numbers from 0 to 10 of which the least is not greater. */
    private static void eachBound() {
        for (int least = 0; least <= 10; least++) {
            Watched x = Check.with(3);
            for (int greatest = least; greatest <= 10; greatest++) {
                int number = greatest - least;
                Check.due("6: number", x.addBound(7, least, greatest), number);
                Check.due("8: kind", x.kind(number), 'k');
                for (int assignment = 0; assignment < 8; assignment++) {
                    int count = countTrue(assignment);
                    Check.due("10: bound(7, " + least + ", " + greatest + ") in " + assignment,
                            x.holds(number, assignment), least <= count && count <= greatest);
                }
            }
        }
    }

    private static void boundsOfAll() {
        long[] choices = {1, 10, 45, 120, 210, 252, 210, 120, 45, 10, 1};
        for (int least = 0; least <= 10; least++) {
            Watched x = Check.with(10);
            long due = 0;
            for (int greatest = least; greatest <= 10; greatest++) {
                due += choices[greatest];
                x.addBound(1023, least, greatest);
                Check.due("11: from " + least + " to " + greatest, x.models(), due);
                Check.due("12: from " + least + " to " + greatest, x.modelsByAll(), due);
                x.drop(greatest - least);
            }
        }
    }

    private static void wrongBounds() {
        for (int variables : NUMBERS) {
            Watched x = Check.with(variables);
            for (int bad : Check.setsOutside(variables)) {
                Check.thrown(x, "6: set " + bad, Check.ARGUMENT, () -> x.addBound(bad, 0, 10));
                Check.thrown(x, "6: set " + bad, Check.ARGUMENT, () -> x.addBound(bad, 1, 1));
            }
            Check.thrown(x, "6: empty", Check.ARGUMENT, () -> x.addBound(0, 0, 0));
            Check.thrown(x, "6: empty", Check.ARGUMENT, () -> x.addBound(0, 0, 10));
        }
        Watched x = Check.with(2);
        Watched y = Check.with(2);
        for (int least = -2; least <= 12; least++) {
            for (int greatest = -2; greatest <= 12; greatest++) {
                int low = least;
                int high = greatest;
                if (low < 0 || high > 10 || low > high) {
                    Watched z = low % 2 == 0 ? x : y;
                    Check.thrown(z, "6: from " + low + " to " + high, Check.ARGUMENT, () -> z.addBound(3, low, high));
                }
            }
        }
        for (int bad : Check.outside(0, 10)) {
            Check.thrown(x, "6: least " + bad, Check.ARGUMENT, () -> x.addBound(3, bad, 10));
            Check.thrown(x, "6: greatest " + bad, Check.ARGUMENT, () -> x.addBound(3, 0, bad));
            Check.thrown(x, "6: both " + bad, Check.ARGUMENT, () -> x.addBound(3, bad, bad));
        }
    }

    /** "A set has a variable that is not there", until it is added. */
    private static void setsThatComeLater() {
        for (int variables = 0; variables < 10; variables++) {
            Watched x = Check.with(variables);
            int next = 1 << variables;
            Check.thrown(x, "4: not yet", Check.ARGUMENT, () -> x.addClause(next, 0));
            Check.thrown(x, "5: not yet", Check.ARGUMENT, () -> x.addParity(next, 0));
            Check.thrown(x, "6: not yet", Check.ARGUMENT, () -> x.addBound(next, 0, 1));
            x.addVariable();
            Check.due("4: now", x.addClause(next, next), 0);
            Check.due("5: now", x.addParity(2 * next - 1, 0), 1);
            Check.due("6: now", x.addBound(2 * next - 1, 0, 10), 2);
            Check.due("11: half", x.models(), (long) next);
        }
    }

    /** Promises 4 to 6: "if 20 constraints were told", dropped or not; it is listed last. */
    private static void twentyConstraints() {
        for (char kind : new char[] {'o', 'x', 'k'}) {
            Watched x = Check.with(1);
            for (int i = 0; i < 19; i++) {
                tell(x, kind);
            }
            Check.due("8: 20 are not told yet", Check.answerOf(() -> x.kind(19)), Check.INDEX);
            tell(x, kind);
            Check.due("8: the twentieth", x.kind(19), kind);
            for (int round = 0; round < 2; round++) {
                Check.thrown(x, "4: a 21st", Check.STATE, () -> x.addClause(1, 0));
                Check.thrown(x, "5: a 21st", Check.STATE, () -> x.addParity(1, 0));
                Check.thrown(x, "6: a 21st", Check.STATE, () -> x.addBound(1, 0, 1));
                Check.thrown(x, "4: full and not there", Check.ARGUMENT, () -> x.addClause(2, 0));
                Check.thrown(x, "4: full and not there", Check.ARGUMENT, () -> x.addClause(0, 2));
                Check.thrown(x, "4: full and empty", Check.ARGUMENT, () -> x.addClause(0, 0));
                Check.thrown(x, "5: full and not there", Check.ARGUMENT, () -> x.addParity(2, 0));
                Check.thrown(x, "5: full and empty", Check.ARGUMENT, () -> x.addParity(0, 0));
                Check.thrown(x, "5: full and rest", Check.ARGUMENT, () -> x.addParity(1, 2));
                Check.thrown(x, "6: full and not there", Check.ARGUMENT, () -> x.addBound(2, 0, 1));
                Check.thrown(x, "6: full and empty", Check.ARGUMENT, () -> x.addBound(0, 0, 1));
                Check.thrown(x, "6: full and least", Check.ARGUMENT, () -> x.addBound(1, -1, 1));
                Check.thrown(x, "6: full and greatest", Check.ARGUMENT, () -> x.addBound(1, 0, 11));
                Check.thrown(x, "6: full and greater", Check.ARGUMENT, () -> x.addBound(1, 1, 0));
                for (int i = 0; i < 20 && round == 0; i++) {
                    x.drop(i);
                }
            }
            Check.due("2: a variable may still come", x.addVariable(), 1);
            Check.due("11: all are dropped", x.models(), 4L);
        }
        Watched y = Check.with(10);
        for (int i = 0; i < 20; i++) {
            int number = i % 3 == 0 ? y.addClause(1023, 0)
                    : i % 3 == 1 ? y.addBound(1023, 0, 10) : y.addParity(1 << i % 10, 0);
            Check.due("4, 5, 6: one count of numbers", number, i);
        }
        Check.due("11: 20 constraints", y.models(), y.modelsByAll());
        Check.due("12: 2, 5, 8, 1, 4, 7 are false", y.modelsByAll(), 15L);
        y.drop(19);
        y.drop(17);
        Check.due("11: with 7 true or false", y.models(), 31L);
    }

    /** Promise 7: "Returns how many are not dropped then", for the first, the last and each between. */
    private static void dropEach() {
        Watched x = Check.with(5);
        for (int i = 0; i < 20; i++) {
            x.addParity(1 << i % 5, i / 5 % 2);
        }
        int[] turns = {19, 0, 10, 1, 18, 2, 17, 3, 16, 4, 15, 5, 14, 6, 13, 7, 12, 8, 11, 9};
        for (int i = 0; i < 20; i++) {
            int turn = turns[i];
            Check.due("7: drop " + turn, x.drop(turn), 19 - i);
            Check.thrown(x, "7: it was dropped", Check.STATE, () -> x.drop(turn));
        }
        Check.due("11: none is left", x.models(), 32L);
        Watched y = Check.with(1);
        y.addParity(1, 0);
        Check.due("7: the only one", y.drop(0), 0);
        Check.due("11: both", y.models(), 2L);
        y.addParity(1, 1);
        Check.thrown(y, "7: it stays dropped", Check.STATE, () -> y.drop(0));
        Check.due("7: the next one", y.drop(1), 0);
        Watched z = Check.with(1);
        for (int i = 0; i < 20; i++) {
            z.addParity(1, i == 19 ? 1 : 0);
        }
        Check.due("11: the last one counts", z.models() + z.modelsByAll(), 0L);
        z.drop(19);
        Check.due("11: without the last one", z.models() + z.modelsByAll(), 2L);
    }

    private static void wrongDrops() {
        for (int told : new int[] {0, 1, 3, 19, 20}) {
            Watched x = Check.with(1);
            for (int i = 0; i < told; i++) {
                tell(x, "oxk".charAt(i % 3));
            }
            if (told > 0) {
                x.drop(told - 1);
            }
            for (int bad : Check.outside(0, told - 1)) {
                Check.thrown(x, "7: constraint " + bad + " of " + told, Check.INDEX, () -> x.drop(bad));
                Check.thrown(x, "8: constraint " + bad + " of " + told, Check.INDEX, () -> x.kind(bad));
                Check.thrown(x, "10: constraint " + bad + " of " + told, Check.INDEX, () -> x.holds(bad, 0));
                Check.thrown(x, "10: and assignment " + bad, Check.INDEX, () -> x.holds(bad, 2));
                Check.thrown(x, "10: and assignment " + bad, Check.INDEX, () -> x.holds(bad, -1));
            }
        }
    }

    /** Promise 8: the first and the last one, dropped too. */
    private static void kinds() {
        Watched x = Check.with(1);
        for (int i = 0; i < 20; i++) {
            tell(x, "kox".charAt(i % 3));
        }
        for (int round = 0; round < 2; round++) {
            StringBuilder kinds = new StringBuilder();
            for (int i = 0; i < 20; i++) {
                kinds.append(x.kind(i));
                if (round == 0) {
                    x.drop(i);
                }
            }
            Check.due("8: kinds", kinds.toString(), "koxkoxkoxkoxkoxkoxko");
        }
    }

    /** Promise 9: from none, false and true to each of them; "Returns the evidence before, or -1". */
    private static void eachEvidence() {
        int[] turns = {-1, 0, 0, 1, 1, 0, -1, 1, -1, -1};
        for (int variable = 0; variable < 10; variable++) {
            Watched x = Check.with(10);
            int before = -1;
            for (int value : turns) {
                Check.due("9: before", x.setEvidence(variable, value), before);
                Check.due("11: models", x.models(), value == -1 ? 1024L : 512L);
                Check.due("12: models", x.modelsByAll(), value == -1 ? 1024L : 512L);
                Check.due("18: implied", x.implied(variable), value == -1 ? '-' : value == 0 ? 'f' : 't');
                Check.due("25: first", x.first(), value == 1 ? 1 << variable : 0);
                Check.due("18: the others", x.implied(9 - variable), '-');
                before = value;
            }
        }
        Watched x = Check.with(10);
        for (int variable = 0; variable < 10; variable++) {
            Check.due("9: all of them", x.setEvidence(variable, variable % 2), -1);
        }
        Check.due("11: one model", x.models() * 10 + x.modelsByAll(), 11L);
        Check.due("25: that one", x.first(), 2 + 8 + 32 + 128 + 512);
        for (int variable = 9; variable >= 0; variable--) {
            Check.due("9: none any more", x.setEvidence(variable, -1), variable % 2);
        }
        Check.due("11: all again", x.models(), 1024L);
    }

    private static void wrongEvidence() {
        for (int variables : NUMBERS) {
            Watched x = Check.with(variables);
            if (variables > 0) {
                x.setEvidence(variables - 1, 1);
            }
            for (int bad : Check.outside(0, variables - 1)) {
                Check.thrown(x, "9: variable " + bad + " of " + variables, Check.INDEX, () -> x.setEvidence(bad, 0));
                Check.thrown(x, "9: away from " + bad, Check.INDEX, () -> x.setEvidence(bad, -1));
                Check.thrown(x, "9: variable and value", Check.INDEX, () -> x.setEvidence(bad, 2));
            }
        }
        Watched x = Check.with(10);
        x.setEvidence(9, 0);
        for (int bad : Check.outside(-1, 1)) {
            Check.thrown(x, "9: value " + bad, Check.ARGUMENT, () -> x.setEvidence(0, bad));
            Check.thrown(x, "9: value " + bad, Check.ARGUMENT, () -> x.setEvidence(9, bad));
        }
        Check.due("9: it stays", x.setEvidence(9, -1) * 10 + x.setEvidence(0, -1), -1);
    }

    /** Promise 10: the first and the last constraint, the first and the last assignment; "dropped or not". */
    private static void holdsInFirstAndLast() {
        Watched x = Check.with(10);
        x.addClause(1, 512);
        for (int i = 1; i < 19; i++) {
            x.addParity(1023, 0);
        }
        x.addBound(1023, 10, 10);
        x.setEvidence(0, 1);
        x.setEvidence(9, 0);
        for (int round = 0; round < 2; round++) {
            Check.due("10: first in none", x.holds(0, 0), true);
            Check.due("10: first in the last alone", x.holds(0, 512), false);
            Check.due("10: first in all", x.holds(0, 1023), true);
            Check.due("10: last in none", x.holds(19, 0), false);
            Check.due("10: last in all but one", x.holds(19, 1022) || x.holds(19, 511), false);
            Check.due("10: last in all", x.holds(19, 1023), true);
            Check.due("10: between, none", x.holds(9, 0), true);
            Check.due("10: between, the last", x.holds(9, 512), false);
            x.setEvidence(0, 0);
            x.setEvidence(9, 1);
            if (round == 0) {
                x.drop(0);
                x.drop(19);
                x.drop(9);
            }
        }
        Watched y = Check.with(1);
        y.addParity(1, 1);
        y.addVariable();
        Check.due("10: of a new variable too", y.holds(0, 3) && !y.holds(0, 2), true);
    }

    private static void wrongHolds() {
        for (int variables : new int[] {1, 2, 9, 10}) {
            Watched x = Check.with(variables);
            x.addBound(1, 0, 10);
            x.addClause(1, 1);
            x.drop(1);
            for (int bad : Check.setsOutside(variables)) {
                Check.thrown(x, "10: assignment " + bad, Check.ARGUMENT, () -> x.holds(0, bad));
                Check.thrown(x, "10: of a dropped one " + bad, Check.ARGUMENT, () -> x.holds(1, bad));
                Check.thrown(x, "10: constraint and assignment", Check.INDEX, () -> x.holds(2, bad));
                Check.thrown(x, "10: constraint and assignment", Check.INDEX, () -> x.holds(-1, bad));
            }
        }
    }
}
