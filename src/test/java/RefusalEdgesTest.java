/**
 * What the document says of all refused calls: which exception comes first, and that such a call changes nothing. One
 * case for each call and each of its exceptions.
 */
public final class RefusalEdgesTest {
    private static final String CHANGES = "Such a call changes nothing";
    private static final String ORDER = "IllegalArgumentException, then IllegalStateException, as told";

    public static void main(String[] args) {
        Edges edges = new Edges();
        cellsChangeNothing(edges);
        patchesChangeNothing(edges);
        fitsChangeNothing(edges);
        textsAndDaysChangeNothing(edges);
        cellsInOrder(edges);
        fitsInOrder(edges);
        edges.end("RefusalEdgesTest", 6, 22);
    }

    private static void cellsChangeNothing(Edges edges) {
        edges.edge(2, CHANGES, "pixel nowhere", check -> {
            new Twins(check, Twins::busy).noCell("x", c -> c.pixel(6, 2, 1, 5));
            new Twins(check, Twins::busy).noCell("y", c -> c.pixel(2, -1, 1, 5));
            new Twins(check, Twins::busy).noCell("part", c -> c.pixel(2, 2, 3, 5));
        });
        edges.edge(2, CHANGES, "pixel of a wrong value", check -> {
            new Twins(check, Twins::busy).noArgument("-1", c -> c.pixel(2, 2, 1, -1));
            new Twins(check, Twins::busy).noArgument("256", c -> c.pixel(2, 2, 1, 256));
        });
        edges.edge(3, CHANGES, "light nowhere", check -> {
            new Twins(check, Twins::busy).noCell("x", c -> c.light(-1, 2, 5));
            new Twins(check, Twins::busy).noCell("y", c -> c.light(2, 6, 5));
        });
        edges.edge(3, CHANGES, "light of a wrong value", check -> {
            new Twins(check, Twins::busy).noArgument("-1", c -> c.light(2, 2, -1));
            new Twins(check, Twins::busy).noArgument("256", c -> c.light(2, 2, 256));
        });
        edges.edge(4, CHANGES, "lit nowhere", check -> {
            new Twins(check, Twins::busy).noCell("cell", c -> c.lit(6, 6, 0));
            new Twins(check, Twins::busy).noCell("part", c -> c.lit(2, 2, -1));
        });
        edges.edge(6, CHANGES, "box", check -> {
            new Twins(check, Twins::busy).noCell("what", c -> c.box(4));
            new Twins(check, Twins::unfound).noState("never found", c -> c.box(0));
            new Twins(check, Twins::lost).noState("lost", c -> c.box(0));
        });
    }

    private static void patchesChangeNothing(Edges edges) {
        edges.edge(7, CHANGES, "grid", check -> {
            new Twins(check, Twins::busy).noArgument("columns", c -> Scenes.grid(c, 5, 1));
            new Twins(check, Twins::busy).noArgument("rows", c -> Scenes.grid(c, 1, 0));
        });
        edges.edge(8, CHANGES, "turn", check -> {
            new Twins(check, Twins::busy).noArgument("-1", c -> c.turn(-1));
            new Twins(check, Twins::busy).noArgument("4", c -> c.turn(4));
        });
        edges.edge(9, CHANGES, "read", check -> {
            new Twins(check, Twins::busy).noCell("patch", c -> c.read(6, 0));
            new Twins(check, Twins::busy).noCell("part", c -> c.read(0, 3));
            new Twins(check, Twins::unfound).noState("none found", c -> c.read(0, 0));
        });
        edges.edge(10, CHANGES, "noise", check -> {
            new Twins(check, Twins::busy).noCell("patch", c -> c.noise(6, 0));
            new Twins(check, Twins::busy).noCell("part", c -> c.noise(0, 2));
            new Twins(check, Twins::unfound).noState("none found", c -> c.noise(0, 0));
        });
        edges.edge(11, CHANGES, "target nowhere", check -> {
            new Twins(check, Twins::busy).noCell("16", c -> Scenes.target(c, 16, 1, 1, 1));
            new Twins(check, Twins::busy).noCell("no target of -1", c -> Scenes.target(c, -1, -1, 1, 1));
        });
        edges.edge(11, CHANGES, "target of wrong parts, of a patch that has one and of one that has none", check -> {
            for (int patch : new int[] {3, 4}) {
                new Twins(check, Twins::busy).noArgument("red", c -> Scenes.target(c, patch, 256, 1, 1));
                new Twins(check, Twins::busy).noArgument("green", c -> Scenes.target(c, patch, 1, -1, 1));
                new Twins(check, Twins::busy).noArgument("blue", c -> Scenes.target(c, patch, 1, 1, 256));
            }
        });
        edges.edge(12, CHANGES, "neutral", check -> {
            new Twins(check, Twins::busy).noCell("16", c -> c.neutral(16));
            new Twins(check, Twins::busy).noCell("-2", c -> c.neutral(-2));
            new Twins(check, Twins::busy).noState("without a target", c -> c.neutral(4));
        });
    }

    private static void fitsChangeNothing(Edges edges) {
        edges.edge(13, CHANGES, "fit", check -> {
            new Twins(check, Twins::unfound).noState("never found", ColourCharts::fit);
            new Twins(check, Twins::lost).noState("lost", ColourCharts::fit);
        });
        edges.edge(14, CHANGES, "line", check -> {
            new Twins(check, Twins::busy).noCell("part", c -> c.line(3, 0));
            new Twins(check, Twins::busy).noCell("what", c -> c.line(0, 3));
            new Twins(check, Twins::unfitted).noState("nothing fitted", c -> c.line(0, 0));
        });
        edges.edge(15, CHANGES, "colour", check -> {
            new Twins(check, Twins::busy).noCell("part", c -> c.colour(3, 1));
            new Twins(check, Twins::busy).noArgument("value", c -> c.colour(0, 256));
            new Twins(check, Twins::unfitted).noState("nothing fitted", c -> c.colour(0, 1));
        });
        edges.edge(16, CHANGES, "difference", check -> {
            new Twins(check, Twins::busy).noCell("patch", c -> c.difference(6));
            new Twins(check, Twins::lost).noState("none found", c -> c.difference(0));
            new Twins(check, Twins::unfitted).noState("nothing fitted", c -> c.difference(0));
        });
        edges.edge(19, CHANGES, "reject", check -> {
            new Twins(check, Twins::lost).noState("none found", ColourCharts::reject);
            new Twins(check, Twins::unfitted).noState("nothing fitted", ColourCharts::reject);
        });
    }

    private static void textsAndDaysChangeNothing(Edges edges) {
        edges.edge(17, CHANGES, "unit", check -> {
            new Twins(check, Twins::busy).noArgument("32", c -> c.unit(32));
            new Twins(check, Twins::busy).noArgument("127", c -> c.unit(127));
            new Twins(check, Twins::withTwentySigns).noState("a 21st", c -> c.unit('9'));
        });
        edges.edge(18, CHANGES, "rule", check -> {
            new Twins(check, Twins::withEightRules).noState("a ninth", ColourCharts::rule);
        });
        edges.edge(20, CHANGES, "day", check -> {
            new Twins(check, Twins::busy).noArgument("day", c -> c.day(-1, 5));
            new Twins(check, Twins::busy).noArgument("value", c -> c.day(5, 1001));
            new Twins(check, Twins::withFortyDays).noState("a 41st", c -> c.day(5, 5));
        });
        edges.edge(21, CHANGES, "drift", check -> new Twins(check, Twins::busy).noCell("part", c -> c.drift(2)));
        edges.edge(22, CHANGES, "count", check -> new Twins(check, Twins::busy).noCell("what", c -> c.count(6)));
    }

    private static void cellsInOrder(Edges edges) {
        ColourCharts c = new ColourCharts(6, 6);
        edges.edge(2, ORDER, "no cell or part, and a wrong value", check -> {
            check.noCell("x", () -> c.pixel(6, 0, 0, 256));
            check.noCell("y", () -> c.pixel(0, -1, 0, -1));
            check.noCell("part", () -> c.pixel(0, 0, 3, 256));
        });
        edges.edge(3, ORDER, "no cell, and a wrong value", check -> {
            check.noCell("x", () -> c.light(-1, 0, 256));
            check.noCell("y", () -> c.light(0, 6, -1));
        });
        edges.edge(6, ORDER, "no side, and none found", check -> check.noCell("box", () -> c.box(4)));
        edges.edge(9, ORDER, "no patch or part, and none found", check -> {
            check.noCell("patch", () -> c.read(4, 0));
            check.noCell("part", () -> c.read(0, 3));
        });
        edges.edge(10, ORDER, "no patch or part, and none found", check -> {
            check.noCell("patch", () -> c.noise(4, 0));
            check.noCell("part", () -> c.noise(0, 2));
        });
        edges.edge(11, ORDER, "no patch, and wrong parts", check -> {
            check.noCell("red", () -> Scenes.target(c, 16, 256, 0, 0));
            check.noCell("green", () -> Scenes.target(c, -1, 0, -1, 0));
        });
        edges.edge(12, ORDER, "no patch, so no target either", check -> {
            check.noCell("16", () -> c.neutral(16));
            check.noCell("-2", () -> c.neutral(-2));
        });
    }

    private static void fitsInOrder(Edges edges) {
        ColourCharts c = new ColourCharts(6, 6);
        edges.edge(14, ORDER, "no part or what, and nothing fitted", check -> {
            check.noCell("part", () -> c.line(3, 0));
            check.noCell("what", () -> c.line(0, -1));
        });
        edges.edge(15, ORDER, "no part, a wrong value, nothing fitted", check -> {
            check.noCell("all three", () -> c.colour(3, 256));
            check.noCell("no part, nothing fitted", () -> c.colour(-1, 0));
            check.noArgument("a wrong value, nothing fitted", () -> c.colour(0, 256));
            check.noCell("no part, a wrong value", () -> Twins.busy().colour(3, -1));
        });
        edges.edge(16, ORDER, "no patch of the grid, none found, nothing fitted", check -> {
            check.noCell("none found", () -> c.difference(4));
            check.noCell("nothing fitted", () -> Twins.unfitted().difference(6));
            check.noCell("lost", () -> Twins.lost().difference(15));
        });
        edges.edge(17, ORDER, "no sign, and 20 are there", check ->
            check.noArgument("unit", () -> Twins.withTwentySigns().unit(32)));
        edges.edge(20, ORDER, "no day or value, and 40 are there", check -> {
            check.noArgument("day", () -> Twins.withFortyDays().day(100001, 5));
            check.noArgument("value", () -> Twins.withFortyDays().day(5, -1));
        });
    }
}
