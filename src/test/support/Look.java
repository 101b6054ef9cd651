import java.util.List;

/**
 * All that an object tells after some calls. Each chapter of it is read from an object of its own on
 * which the calls are made again, as an object is promised for few calls alone; so it may be used up.
 */
public final class Look {
    private static final int MOST_SETS_LOOKED_AT = 32;
    private static final int MOST_ANSWERS = 165;

    private final List<Watched.Step<?>> steps;
    private final StringBuilder seen = new StringBuilder();
    private int variables = 0;

    private Look(List<Watched.Step<?>> steps) {
        this.steps = steps;
    }

    public static String after(List<Watched.Step<?>> steps) {
        Look look = new Look(steps);
        look.atVariables();
        look.atCounts();
        look.atConstraints();
        for (int slot = 0; slot < 4; slot++) {
            look.atSlot(slot);
        }
        return look.seen.toString();
    }

    private void see(Check.Call call) {
        seen.append(' ').append(Check.answerOf(call));
    }

    private Watched again(String chapter) {
        seen.append('\n').append(chapter).append(':');
        return Watched.after(steps);
    }

    private void atVariables() {
        Watched x = again("variables");
        for (int i = 0; i < 11; i++) {
            int variable = i;
            Object place = Check.answerOf(() -> x.orderAt(variable));
            seen.append(' ').append(place);
            variables += place instanceof Integer ? 1 : 0;
            see(() -> x.partOf(variable));
            see(() -> x.modelsOfPart(variable));
            see(() -> x.implied(variable));
        }
        for (int i = 0; i < 11; i++) {
            int variable = i;
            see(() -> x.setWeights(variable, 1, 1));
            see(() -> x.setEvidence(variable, -1));
        }
    }

    private void atCounts() {
        Watched x = again("counts");
        see(x::models);
        see(x::modelsByAll);
        see(x::weight);
        see(x::parts);
        see(x::nodes);
        see(x::ways);
        see(x::density);
        see(x::meanTrue);
        see(x::first);
        for (int i = 0; i < variables; i++) {
            int variable = i;
            see(() -> x.weightWith(variable, 0));
            see(() -> x.chanceTop(variable));
            see(() -> x.nodesFor(variable));
            see(() -> x.projected((1 << variable + 1) - 1));
        }
        for (int i = 0; i < 21; i++) {
            int rank = i;
            see(() -> x.best(rank));
        }
    }

    private void atConstraints() {
        Watched x = again("constraints");
        int told = 0;
        for (int i = 0; i < 21; i++) {
            int number = i;
            Object kind = Check.answerOf(() -> x.kind(number));
            seen.append(' ').append(kind);
            told += kind instanceof Character ? 1 : 0;
        }
        for (int i = 0; i < told; i++) {
            int number = i;
            see(() -> x.drop(number));
        }
        int sets = 1 << variables;
        int step = 1 + sets * told / MOST_ANSWERS;
        for (int i = 0; i < told; i++) {
            for (int set = i % step; set < sets; set += step) {
                seen.append(x.holds(i, set) ? 1 : 0);
            }
        }
    }

    private void atSlot(int slot) {
        Watched x = again("slot " + slot);
        see(() -> x.modelsOf(slot));
        see(() -> x.nodesOf(slot));
        for (int i = 0; i < 4; i++) {
            int other = i;
            see(() -> x.areSame(slot, other));
            see(() -> x.isWithin(slot, other));
        }
        if (Check.answerOf(() -> x.nodesOf(slot)) instanceof Integer) {
            seen.append(' ').append(content(x, slot, variables));
        }
    }

    /**
     * Which assignments belong to what a slot keeps, or some of them if there are many, as a text of
     * '0' and '1'. It drops all constraints, settles all variables and keeps something in another slot.
     */
    public static String content(Watched x, int slot, int variables) {
        int spare = slot == 0 ? 1 : 0;
        for (int i = 0; i < 20; i++) {
            int number = i;
            Check.answerOf(() -> x.drop(number));
        }
        for (int variable = 0; variable < variables; variable++) {
            x.setEvidence(variable, 0);
        }
        StringBuilder content = new StringBuilder();
        int sets = 1 << variables;
        int step = Math.max(1, sets / MOST_SETS_LOOKED_AT);
        int before = 0;
        for (int set = 0; set < sets; set += step) {
            for (int variable = 0; variable < variables; variable++) {
                if (((set ^ before) >> variable & 1) != 0) {
                    x.setEvidence(variable, set >> variable & 1);
                }
            }
            before = set;
            x.keep(spare);
            content.append(x.isWithin(spare, slot) ? 1 : 0);
        }
        return content.toString();
    }
}
