/** Promises 11 to 16: target, neutral, fit, line, colour, difference. */
public final class FitTest {
    private static final Check CHECK = new Check();

    public static void main(String[] args) {
        targets();
        neutral();
        freeLine();
        heldLine();
        linesWithoutSlope();
        latestFit();
        colours();
        differences();
        wrongCalls();
        CHECK.end("FitTest");
    }

    private static void line(ColourCharts c, int part, long a, long b, long d) {
        CHECK.due("a of part " + part, c.line(part, 0), a);
        CHECK.due("b of part " + part, c.line(part, 1), b);
        CHECK.due("d of part " + part, c.line(part, 2), d);
    }

    private static void targets() {
        ColourCharts c = new ColourCharts(6, 6);
        c.target(0, 0, 0, 0);
        c.target(15, 255, 255, 255);
        CHECK.due("targets", c.count(2), 2);
        c.target(15, 1, 2, 3);
        CHECK.due("targets, one told anew", c.count(2), 2);
        c.target(3, -1, 0, 0);
        CHECK.due("targets, none dropped", c.count(2), 2);
        for (int no : new int[] {-1, 16, Integer.MIN_VALUE, Integer.MAX_VALUE}) {
            CHECK.noCell("target " + no, () -> Scenes.target(c, no, 1, 1, 1));
            CHECK.noCell("target " + no + " with a wrong part", () -> Scenes.target(c, no, 256, 1, 1));
            CHECK.noCell("no target " + no, () -> Scenes.target(c, no, -1, 1, 1));
        }
        int[][] wrong = {{256, 0, 0}, {0, 256, 0}, {0, -1, 0}, {0, 0, 256}, {0, 0, -1}, {255, Integer.MIN_VALUE, 0}};
        for (int[] w : wrong) {
            CHECK.noArgument("target of wrong parts", () -> Scenes.target(c, 1, w[0], w[1], w[2]));
        }
        CHECK.due("targets after refusals", c.count(2), 2);
        c.target(0, Integer.MIN_VALUE, 999, -7);
        CHECK.due("targets, one dropped, whatever the others are", c.count(2), 1);
        for (int patch = 0; patch < 16; patch++) {
            c.target(patch, 9, 9, 9);
        }
        CHECK.due("all targets", c.count(2), 16);
    }

    private static void neutral() {
        ColourCharts c = new ColourCharts(6, 6);
        c.target(5, 1, 1, 1);
        c.target(15, 1, 1, 1);
        CHECK.due("neutral", c.neutral(5), ColourCharts.NONE);
        CHECK.due("neutral, another", c.neutral(15), 5);
        CHECK.noState("neutral without target", () -> c.neutral(4));
        for (int no : new int[] {-2, 16, Integer.MIN_VALUE, Integer.MAX_VALUE}) {
            CHECK.noCell("neutral " + no, () -> c.neutral(no));
        }
        CHECK.due("neutral after refusals", c.neutral(5), 15);
        c.target(15, -1, 0, 0);
        CHECK.due("another one's target dropped", c.neutral(5), 5);
        c.target(5, 2, 2, 2);
        CHECK.due("its target told anew", c.neutral(5), 5);
        c.target(5, -1, 0, 0);
        CHECK.due("its target dropped", c.neutral(ColourCharts.NONE), ColourCharts.NONE);
        c.target(5, 2, 2, 2);
        CHECK.due("it does not come back", c.neutral(5), ColourCharts.NONE);
        CHECK.due("none", c.neutral(ColourCharts.NONE), 5);
        CHECK.due("none again", c.neutral(ColourCharts.NONE), ColourCharts.NONE);
    }

    /** Points (10, 20), (20, 30), (40, 70) of reds; greens on a falling line; blues on y = x. */
    private static ColourCharts threePoints() {
        ColourCharts c = Scenes.sixteenCells();
        Scenes.patch(c, 0, 10, 10, 50);
        Scenes.patch(c, 6, 20, 12, 60);
        Scenes.patch(c, 15, 40, 14, 90);
        c.target(0, 20, 103, 50);
        c.target(6, 30, 102, 60);
        c.target(15, 70, 101, 90);
        return c;
    }

    /** Patches 0 and 6 are of other cells in this grid: painted to be read as before. */
    private static void makeRowsThree(ColourCharts c) {
        Scenes.patch(c, 4, 10, 10, 50);
        Scenes.patch(c, 10, 20, 12, 60);
        c.grid(4, 3);
    }

    private static void freeLine() {
        ColourCharts c = threePoints();
        CHECK.due("fit", c.fit(), 3);
        line(c, 0, 12, 0, 7);
        line(c, 1, -1, 216, 2);
        line(c, 2, 1, 0, 1);
        makeRowsThree(c);
        CHECK.due("fit in a lesser grid", c.fit(), 2);
        line(c, 0, 1, 10, 1);
    }

    private static void heldLine() {
        ColourCharts c = threePoints();
        c.neutral(0);
        CHECK.due("fit, held", c.fit(), 3);
        line(c, 0, 8, 20, 5);
        line(c, 1, -1, 216, 2);
        c.neutral(6);
        c.fit();
        line(c, 0, 9, -30, 5);
        c.neutral(15);
        makeRowsThree(c);
        CHECK.due("fit, the neutral one beyond the grid", c.fit(), 2);
        line(c, 0, 1, 10, 1);
        c.target(0, -1, 0, 0);
        CHECK.due("one, and the neutral one beyond the grid", c.fit(), 1);
        c.grid(4, 4);
        CHECK.due("the neutral one is counted", c.fit(), 2);
        line(c, 0, 2, -10, 1);
    }

    private static void linesWithoutSlope() {
        ColourCharts c = Scenes.sixteenCells();
        Scenes.patch(c, 0, 50, 50, 50);
        Scenes.patch(c, 1, 50, 50, 60);
        Scenes.patch(c, 2, 50, 50, 70);
        c.target(0, 10, 0, 80);
        c.target(1, 11, 0, 80);
        c.target(2, 13, 0, 80);
        CHECK.due("fit", c.fit(), 3);
        line(c, 0, 0, 34, 3);
        line(c, 1, 0, 0, 1);
        line(c, 2, 0, 80, 1);
        c.neutral(2);
        CHECK.due("fit, held", c.fit(), 3);
        line(c, 0, 0, 13, 1);
        line(c, 1, 0, 0, 1);
        line(c, 2, 0, 80, 1);
        Scenes.patch(c, 1, 49, 50, 60);
        c.fit();
        line(c, 0, 2, -87, 1);
    }

    private static void latestFit() {
        ColourCharts c = threePoints();
        CHECK.noState("line before a fit", () -> c.line(0, 0));
        c.fit();
        Scenes.patch(c, 0, 99, 99, 99);
        c.target(0, 1, 1, 1);
        line(c, 0, 12, 0, 7);
        c.target(0, -1, 0, 0);
        c.target(6, -1, 0, 0);
        CHECK.due("fit of one", c.fit(), 1);
        line(c, 0, 12, 0, 7);
        c.target(15, -1, 0, 0);
        CHECK.due("fit of none", c.fit(), 0);
        line(c, 0, 12, 0, 7);
        Scenes.grey(c, 0, 0, 255);
        CHECK.due("find, broken", c.find(), false);
        CHECK.noState("fit, none found", c::fit);
        line(c, 0, 12, 0, 7);
        CHECK.due("colour, none found", c.colour(0, 7), 12);
        CHECK.noState("difference, none found", () -> c.difference(0));
    }

    private static void colours() {
        ColourCharts c = threePoints();
        c.fit();
        CHECK.due("12 / 7 of 1", c.colour(0, 1), 2);
        CHECK.due("of 2", c.colour(0, 2), 3);
        CHECK.due("of 0", c.colour(0, 0), 0);
        CHECK.due("at most 255", c.colour(0, 255), 255);
        CHECK.due("of 148: 253.7", c.colour(0, 148), 254);
        CHECK.due("107.5 goes up", c.colour(1, 1), 108);
        CHECK.due("0.5 goes up", c.colour(1, 215), 1);
        CHECK.due("-0.5 goes up", c.colour(1, 217), 0);
        CHECK.due("at least 0", c.colour(1, 255), 0);
        CHECK.due("the same", c.colour(2, 77), 77);
    }

    private static void differences() {
        ColourCharts c = threePoints();
        c.fit();
        CHECK.due("17.1 for 20, exact others", c.difference(0), 2 * 3 * 3);
        CHECK.due("68.6 for 70", c.difference(15), 2);
        CHECK.due("no target", c.difference(1), ColourCharts.NONE);
        Scenes.patch(c, 0, 10, 20, 51);
        CHECK.due("as it is read now", c.difference(0), 2 * 9 + 4 * 25 + 3);
        c.target(0, 17, 98, 41);
        CHECK.due("by the target of now", c.difference(0), 300);
        c.target(3, 0, 0, 0);
        c.pixel(4, 1, 1, 0);
        CHECK.due("the greatest of each part", c.difference(3), 2 * 65025 + 4 * 108 * 108 + 3 * 65025);
        c.light(4, 1, 0);
        CHECK.due("lit", c.difference(3), 4 * 108 * 108);
        c.turn(2);
        CHECK.due("turned", c.difference(15), 2 * 53 * 53 + 4 * 3 * 3 + 3 * 39 * 39);
    }

    private static void wrongCalls() {
        ColourCharts c = threePoints();
        for (boolean fitted : new boolean[] {false, true}) {
            if (fitted) {
                CHECK.due("fit", c.fit(), 3);
            } else {
                CHECK.noState("line", () -> c.line(2, 2));
                CHECK.noState("colour", () -> c.colour(2, 255));
                CHECK.noState("difference", () -> c.difference(15));
                CHECK.noState("difference without a target", () -> c.difference(1));
            }
            for (int no : new int[] {-1, 3, Integer.MIN_VALUE, Integer.MAX_VALUE}) {
                CHECK.noCell("line part " + no, () -> c.line(no, 0));
                CHECK.noCell("line what " + no, () -> c.line(0, no));
                CHECK.noCell("colour part " + no, () -> c.colour(no, 0));
                CHECK.noCell("colour part " + no + " of a wrong value", () -> c.colour(no, 256));
            }
            for (int wrong : new int[] {-1, 256, Integer.MIN_VALUE, Integer.MAX_VALUE}) {
                CHECK.noArgument("colour of " + wrong, () -> c.colour(0, wrong));
            }
            for (int no : new int[] {-1, 16, Integer.MIN_VALUE, Integer.MAX_VALUE}) {
                CHECK.noCell("difference " + no, () -> c.difference(no));
            }
        }
        c.grid(1, 3);
        CHECK.noCell("difference beyond the grid", () -> c.difference(3));
        ColourCharts bare = new ColourCharts(6, 6);
        bare.target(0, 1, 1, 1);
        bare.target(1, 1, 1, 1);
        CHECK.noState("fit, none found", bare::fit);
    }
}
