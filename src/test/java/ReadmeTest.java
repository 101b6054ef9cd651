import java.nio.file.Files;
import java.nio.file.Path;
import java.util.ArrayList;
import java.util.List;

/** Each call in README.md, on one object, answers what README.md says behind it. */
public final class ReadmeTest {
    private static final List<String> LINES = new ArrayList<>();
    private static int next = 0;

    private ReadmeTest() {
    }

    /** The next line of README.md has to be this call, and the answer it tells has to be this one. */
    private static void row(String call, Object got) {
        String line = next < LINES.size() ? LINES.get(next) : "";
        next++;
        int comment = line.indexOf("//");
        Check.due("README.md, call " + next, comment < 0 ? line : line.substring(0, comment).trim(),
                "counter." + call + ";");
        Check.due("README.md, " + call, comment < 0 ? "" : line.substring(comment + 2).trim().split("[,;: ]")[0],
                String.valueOf(got));
    }

    public static void main(String[] args) throws Exception {
        for (String line : Files.readAllLines(Path.of("README.md"))) {
            if (line.startsWith("counter.")) {
                LINES.add(line);
            }
        }
        Watched x = new Watched();
        tell(x);
        ask(x);
        askForCircuits(x);
        Check.due("README.md, calls", LINES.size(), next);
        Check.end();
    }

    private static void tell(Watched x) {
        row("addVariable()", x.addVariable());
        row("addVariable()", x.addVariable());
        row("addVariable()", x.addVariable());
        row("addClause(3, 0)", x.addClause(3, 0));
        row("addClause(0, 6)", x.addClause(0, 6));
        row("addParity(7, 1)", x.addParity(7, 1));
        row("addBound(7, 0, 2)", x.addBound(7, 0, 2));
        row("kind(2)", x.kind(2));
        row("holds(2, 3)", x.holds(2, 3));
        row("drop(2)", x.drop(2));
        row("setWeights(0, 1, 3)", x.setWeights(0, 1, 3));
        row("setEvidence(2, 0)", x.setEvidence(2, 0));
        row("setEvidence(2, -1)", x.setEvidence(2, -1));
    }

    private static void ask(Watched x) {
        row("models()", x.models());
        row("modelsByAll()", x.modelsByAll());
        row("weight()", x.weight());
        row("weightWith(0, 1)", x.weightWith(0, 1));
        row("chanceTop(0)", x.chanceTop(0));
        row("chanceBottom(0)", x.chanceBottom(0));
        row("projected(3)", x.projected(3));
        row("implied(1)", x.implied(1));
        row("density()", x.density());
        row("meanTrue()", x.meanTrue());
        row("parts()", x.parts());
        row("partOf(2)", x.partOf(2));
        row("modelsOfPart(2)", x.modelsOfPart(2));
        row("best(0)", x.best(0));
        row("weightOf(5)", x.weightOf(5));
        row("lucky(3)", x.lucky(3));
        row("first()", x.first());
    }

    private static void askForCircuits(Watched x) {
        row("nodes()", x.nodes());
        row("nodesFor(1)", x.nodesFor(1));
        row("ways()", x.ways());
        row("exchange(0, 1)", x.exchange(0, 1));
        row("orderAt(0)", x.orderAt(0));
        row("keep(0)", x.keep(0));
        row("setEvidence(0, 1)", x.setEvidence(0, 1));
        row("keep(1)", x.keep(1));
        row("join(0, 1, 'x', 2)", x.join(0, 1, 'x', 2));
        row("fix(0, 2, 1)", x.fix(0, 2, 1));
        row("free(1, 1)", x.free(1, 1));
        row("nodesOf(2)", x.nodesOf(2));
        row("modelsOf(1)", x.modelsOf(1));
        row("areSame(0, 1)", x.areSame(0, 1));
        row("isWithin(0, 1)", x.isWithin(0, 1));
    }
}
