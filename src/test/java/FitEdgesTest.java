/** The boundary cases of promises 11 to 16: target, neutral, fit, line, colour, difference. */
public final class FitEdgesTest {
    private static final int NONE = ColourCharts.NONE;
    private static final String NOWHERE = "there is no such cell, part, patch, rule, what";

    public static void main(String[] args) {
        Edges edges = new Edges();
        target(edges);
        neutral(edges);
        fit(edges);
        line(edges);
        colour(edges);
        difference(edges);
        edges.end("FitEdgesTest", 11, 16);
    }

    private static void target(Edges edges) {
        edges.edge(11, "A target of a patch 0 .. 15", "0 and 15, whatever the grid", FitEdgesTest::outerTargets);
        edges.edge(11, NOWHERE, "-1, 16 and beyond", FitEdgesTest::targetNowhere);
        edges.edge(11, "red below 0: none any more", "dropped", FitEdgesTest::droppedTarget);
        edges.edge(11, "red below 0: none any more", "there was none", FitEdgesTest::droppedNone);
        edges.edge(11, "red below 0: none any more", "green and blue are free then", FitEdgesTest::droppedByRedAlone);
        edges.edge(11, "it is not neutral then", "the neutral one dropped", FitEdgesTest::droppedNeutral);
        edges.edge(11, "it is not neutral then", "another one dropped", FitEdgesTest::droppedOther);
        edges.edge(11, "red is above 255", "256 and beyond", FitEdgesTest::tooMuchRed);
        edges.edge(11, "if it is not below 0, another one is not 0 .. 255", "green", FitEdgesTest::wrongGreen);
        edges.edge(11, "if it is not below 0, another one is not 0 .. 255", "blue", FitEdgesTest::wrongBlue);
        edges.edge(11, "three parts 0 .. 255, or none", "0 and 255", FitEdgesTest::extremeTargets);
    }

    private static void neutral(Edges edges) {
        edges.edge(12, "(NONE: none)", "none, then none again", FitEdgesTest::noNeutral);
        edges.edge(12, "The neutral patch (NONE: none): what it was", "0 and 15", FitEdgesTest::outerNeutral);
        edges.edge(12, "one of them may be NEUTRAL", "the latest alone", FitEdgesTest::oneNeutral);
        edges.edge(12, "IndexOutOfBoundsException: patch 0 .. 15", "-2, 16 and beyond", FitEdgesTest::neutralNowhere);
        edges.edge(12, "IllegalStateException: it has no target", "never told", FitEdgesTest::neutralUntold);
        edges.edge(12, "IllegalStateException: it has no target", "dropped", FitEdgesTest::neutralDropped);
    }

    private static void fit(Edges edges) {
        String less = "with less than two (the neutral one counted) nothing is fitted";
        edges.edge(13, less, "none", FitEdgesTest::fitOfNone);
        edges.edge(13, less, "one", FitEdgesTest::fitOfOne);
        edges.edge(13, less, "two", FitEdgesTest::fitOfTwo);
        edges.edge(13, less, "the neutral one alone", FitEdgesTest::fitOfNeutral);
        edges.edge(13, less, "the neutral one and another", FitEdgesTest::fitOfNeutralAndOne);
        edges.edge(13, "the former fit stays", "with one, and with none", FitEdgesTest::formerFit);
        edges.edge(13, "how many patches with targets there are in the grid", "all 16", FitEdgesTest::fitOfAll);
        edges.edge(13, "how many patches with targets there are in the grid", "beyond it", FitEdgesTest::fitBeyond);
        edges.edge(13, "with a neutral one in the grid", "beyond it", FitEdgesTest::neutralBeyond);
        edges.edge(13, "IllegalStateException: none is found", "none", FitEdgesTest::fitNotFound);
    }

    private static void line(Edges edges) {
        edges.edge(14, "Without two different x", "one x", FitEdgesTest::oneX);
        edges.edge(14, "Without two different x", "one of them differs", FitEdgesTest::twoX);
        edges.edge(14, "(or, held, one x that is another one than the neutral one's)", "one x", FitEdgesTest::heldOneX);
        edges.edge(14, "(or, held, one x that is another one than the neutral one's)", "one of them differs",
            FitEdgesTest::heldTwoX);
        edges.edge(14, "d above 0", "falling lines", FitEdgesTest::fallingLines);
        edges.edge(14, "a, b, d without a common divisor", "lessened", FitEdgesTest::lessenedLines);
        edges.edge(14, "a, b, d without a common divisor", "all y are 0", FitEdgesTest::lineOfNothing);
        edges.edge(14, "that has the least sum of squares", "the steepest", FitEdgesTest::steepestLine);
        edges.edge(14, "that has the least sum of squares", "of great numbers", FitEdgesTest::wideLine);
        edges.edge(14, "that of all lines through it", "off the other points", FitEdgesTest::heldLine);
        edges.edge(14, NOWHERE, "parts", FitEdgesTest::lineOfNoPart);
        edges.edge(14, NOWHERE, "whats", FitEdgesTest::lineOfNoWhat);
        edges.edge(14, "IllegalStateException: nothing was fitted", "no fit yet", FitEdgesTest::lineOfNoFit);
        edges.edge(14, "Of the latest fit", "another fit, and no frame any more", FitEdgesTest::latestLine);
    }

    private static void colour(Edges edges) {
        edges.edge(15, "to the nearest whole number, halves up", "halves", FitEdgesTest::colourHalves);
        edges.edge(15, "to the nearest whole number, halves up", "thirds", FitEdgesTest::colourThirds);
        edges.edge(15, "within 0 .. 255", "below 0", FitEdgesTest::colourBelow);
        edges.edge(15, "within 0 .. 255", "above 255", FitEdgesTest::colourAbove);
        edges.edge(15, "v is not 0 .. 255", "-1, 256 and beyond", FitEdgesTest::colourOfNoValue);
        edges.edge(15, "IndexOutOfBoundsException: part", "-1, 3 and beyond", FitEdgesTest::colourOfNoPart);
        edges.edge(15, "IllegalStateException: nothing was fitted", "no fit yet", FitEdgesTest::colourOfNoFit);
    }

    private static void difference(Edges edges) {
        edges.edge(16, "NONE without a target", "none", FitEdgesTest::differenceOfNone);
        edges.edge(16, "2 r r + 4 g g + 3 b b", "the least is 0, not NONE", FitEdgesTest::leastDifference);
        edges.edge(16, "2 r r + 4 g g + 3 b b", "the greatest", FitEdgesTest::greatestDifference);
        edges.edge(16, "of what is fitted from its read parts", "held within 0 .. 255", FitEdgesTest::heldDifference);
        edges.edge(16, "as it is read now", "cells changed", FitEdgesTest::differenceNow);
        edges.edge(16, "by the latest fit", "not by one of less than two", FitEdgesTest::differenceByLatest);
        edges.edge(16, "IndexOutOfBoundsException: patch of the grid", "beyond it", FitEdgesTest::differenceNowhere);
        edges.edge(16, "none is found, or nothing was fitted", "none found", FitEdgesTest::differenceNotFound);
        edges.edge(16, "none is found, or nothing was fitted", "nothing fitted", FitEdgesTest::differenceNotFitted);
    }

    /** In a grid of 4 by 4, each of one cell: patch i is read as x[i] and has the target y[i], in all three parts. */
    private static ColourCharts points(int[] x, int[] y) {
        ColourCharts c = Scenes.sixteenCells();
        for (int patch = 0; patch < x.length; patch++) {
            point(c, patch, x[patch], y[patch]);
        }
        return c;
    }

    private static void point(ColourCharts c, int patch, int x, int y) {
        Scenes.patch(c, patch, x, x, x);
        c.target(patch, y, y, y);
    }

    private static ColourCharts fitted(int... pairs) {
        ColourCharts c = Scenes.sixteenCells();
        for (int i = 0; i < pairs.length / 2; i++) {
            point(c, i, pairs[2 * i], pairs[2 * i + 1]);
        }
        c.fit();
        return c;
    }

    private static void lineIs(Check check, ColourCharts c, long a, long b, long d) {
        for (int part = 0; part < 3; part++) {
            check.due("a of part " + part, c.line(part, 0), a);
            check.due("b of part " + part, c.line(part, 1), b);
            check.due("d of part " + part, c.line(part, 2), d);
        }
    }

    private static void outerTargets(Check check) {
        ColourCharts c = new ColourCharts(6, 6);
        c.grid(1, 1);
        c.target(0, 1, 2, 3);
        check.due("targets", c.count(2), 1);
        c.target(15, 1, 2, 3);
        check.due("targets", c.count(2), 2);
        check.due("15 has one", c.neutral(15), NONE);
        check.noState("14 has none", () -> c.neutral(14));
    }

    private static void targetNowhere(Check check) {
        ColourCharts c = new ColourCharts(6, 6);
        c.grid(4, 4);
        for (int no : new int[] {-1, 16, 17, Integer.MIN_VALUE, Integer.MAX_VALUE}) {
            check.noCell("target " + no, () -> Scenes.target(c, no, 1, 1, 1));
            check.noCell("no target " + no, () -> Scenes.target(c, no, -1, 1, 1));
        }
        check.due("targets", c.count(2), 0);
    }

    private static void droppedTarget(Check check) {
        for (int red : new int[] {-1, -255, Integer.MIN_VALUE}) {
            ColourCharts c = new ColourCharts(6, 6);
            c.target(7, 0, 0, 0);
            c.target(8, 0, 0, 0);
            c.target(7, red, 0, 0);
            check.due("targets", c.count(2), 1);
            check.noState("7 has none", () -> c.neutral(7));
            check.due("8 has one", c.neutral(8), NONE);
        }
    }

    private static void droppedNone(Check check) {
        ColourCharts c = new ColourCharts(6, 6);
        check.due("no target, of a patch without", Scenes.target(c, 7, -1, 0, 0), 0);
        check.due("targets", c.count(2), 0);
        c.target(7, 0, 0, 0);
        c.target(7, -1, 0, 0);
        c.target(7, -1, 0, 0);
        check.due("targets, dropped twice", c.count(2), 0);
    }

    private static void droppedByRedAlone(Check check) {
        int[][] free = {{-1, 0}, {0, -1}, {256, 0}, {0, 256}, {Integer.MIN_VALUE, Integer.MAX_VALUE}};
        for (int[] f : free) {
            ColourCharts c = new ColourCharts(6, 6);
            c.target(7, 0, 0, 0);
            String told = Check.told(() -> Scenes.target(c, 7, -1, f[0], f[1]));
            check.dueText("no target with " + f[0] + ", " + f[1], told, "0");
            check.due("targets", c.count(2), 0);
        }
    }

    private static void droppedNeutral(Check check) {
        ColourCharts c = new ColourCharts(6, 6);
        c.target(7, 0, 0, 0);
        c.neutral(7);
        c.target(7, -1, 0, 0);
        c.target(7, 0, 0, 0);
        check.due("the neutral one", c.neutral(NONE), NONE);
    }

    private static void droppedOther(Check check) {
        ColourCharts c = new ColourCharts(6, 6);
        c.target(0, 0, 0, 0);
        c.target(7, 0, 0, 0);
        c.neutral(7);
        c.target(0, -1, 0, 0);
        c.target(6, -1, 0, 0);
        c.target(7, 1, 1, 1);
        check.due("the neutral one", c.neutral(NONE), 7);
    }

    private static void tooMuchRed(Check check) {
        for (int red : new int[] {256, 511, Integer.MAX_VALUE}) {
            ColourCharts c = new ColourCharts(6, 6);
            check.noArgument("target of red " + red, () -> Scenes.target(c, 7, red, 0, 0));
            check.due("targets", c.count(2), 0);
        }
    }

    private static void wrongGreen(Check check) {
        for (int wrong : new int[] {-1, 256, Integer.MIN_VALUE, Integer.MAX_VALUE}) {
            ColourCharts c = new ColourCharts(6, 6);
            check.noArgument("target of green " + wrong, () -> Scenes.target(c, 7, 0, wrong, 0));
            check.due("targets", c.count(2), 0);
        }
    }

    private static void wrongBlue(Check check) {
        for (int wrong : new int[] {-1, 256, Integer.MIN_VALUE, Integer.MAX_VALUE}) {
            ColourCharts c = new ColourCharts(6, 6);
            check.noArgument("target of blue " + wrong, () -> Scenes.target(c, 7, 0, 0, wrong));
            check.due("targets", c.count(2), 0);
        }
    }

    private static void extremeTargets(Check check) {
        ColourCharts c = Scenes.sixteenCells();
        check.dueText("target of 0", Check.told(() -> Scenes.target(c, 0, 0, 0, 0)), "0");
        check.dueText("target of 255", Check.told(() -> Scenes.target(c, 1, 255, 255, 255)), "0");
        check.due("targets", c.count(2), 2);
        Scenes.patch(c, 0, 0, 0, 0);
        c.fit();
        lineIs(check, c, 1, 0, 1);
    }

    private static void noNeutral(Check check) {
        ColourCharts c = new ColourCharts(6, 6);
        c.target(7, 0, 0, 0);
        check.due("neutral, none", c.neutral(NONE), NONE);
        check.due("neutral, 7", c.neutral(7), NONE);
        check.due("neutral, none", c.neutral(NONE), 7);
        check.due("neutral, none again", c.neutral(NONE), NONE);
    }

    private static void outerNeutral(Check check) {
        ColourCharts c = new ColourCharts(6, 6);
        c.grid(1, 1);
        c.target(0, 0, 0, 0);
        c.target(15, 0, 0, 0);
        check.due("neutral 15, beyond the grid", c.neutral(15), NONE);
        check.due("neutral 0", c.neutral(0), 15);
        check.due("neutral 0 again", c.neutral(0), 0);
    }

    private static void oneNeutral(Check check) {
        ColourCharts c = points(new int[] {10, 20, 40}, new int[] {20, 30, 70});
        c.neutral(0);
        c.neutral(1);
        c.fit();
        lineIs(check, c, 9, -30, 5);
        c.neutral(NONE);
        c.fit();
        lineIs(check, c, 12, 0, 7);
    }

    private static void neutralNowhere(Check check) {
        ColourCharts c = new ColourCharts(6, 6);
        c.target(7, 0, 0, 0);
        c.neutral(7);
        for (int no : new int[] {-2, 16, 17, Integer.MIN_VALUE, Integer.MAX_VALUE}) {
            check.noCell("neutral " + no, () -> c.neutral(no));
        }
        check.due("the neutral one", c.neutral(NONE), 7);
    }

    private static void neutralUntold(Check check) {
        ColourCharts c = new ColourCharts(6, 6);
        c.target(7, 0, 0, 0);
        c.neutral(7);
        for (int no : new int[] {0, 6, 8, 15}) {
            check.noState("neutral " + no, () -> c.neutral(no));
        }
        check.due("the neutral one", c.neutral(NONE), 7);
    }

    private static void neutralDropped(Check check) {
        ColourCharts c = new ColourCharts(6, 6);
        c.target(7, 0, 0, 0);
        c.target(7, -1, 0, 0);
        check.noState("neutral 7", () -> c.neutral(7));
    }

    private static void fitOfNone(Check check) {
        ColourCharts c = points(new int[] {}, new int[] {});
        check.due("fit", c.fit(), 0);
        check.noState("line", () -> c.line(0, 0));
    }

    private static void fitOfOne(Check check) {
        ColourCharts c = points(new int[] {10}, new int[] {20});
        check.due("fit", c.fit(), 1);
        check.noState("line", () -> c.line(0, 0));
    }

    private static void fitOfTwo(Check check) {
        ColourCharts c = points(new int[] {10, 20}, new int[] {20, 40});
        check.due("fit", c.fit(), 2);
        lineIs(check, c, 2, 0, 1);
    }

    private static void fitOfNeutral(Check check) {
        ColourCharts c = points(new int[] {10}, new int[] {20});
        c.neutral(0);
        check.due("fit", c.fit(), 1);
        check.noState("line", () -> c.line(0, 0));
    }

    private static void fitOfNeutralAndOne(Check check) {
        ColourCharts c = points(new int[] {10, 20}, new int[] {20, 40});
        c.neutral(1);
        check.due("fit", c.fit(), 2);
        lineIs(check, c, 2, 0, 1);
    }

    private static void formerFit(Check check) {
        ColourCharts c = points(new int[] {10, 20}, new int[] {20, 40});
        c.fit();
        c.target(0, -1, 0, 0);
        point(c, 1, 30, 31);
        check.due("fit of one", c.fit(), 1);
        lineIs(check, c, 2, 0, 1);
        c.target(1, -1, 0, 0);
        check.due("fit of none", c.fit(), 0);
        lineIs(check, c, 2, 0, 1);
    }

    private static void fitOfAll(Check check) {
        int[] x = new int[16];
        int[] y = new int[16];
        for (int i = 0; i < 16; i++) {
            x[i] = 17 * i;
            y[i] = 255 - 17 * i;
        }
        ColourCharts c = points(x, y);
        check.due("fit", c.fit(), 16);
        lineIs(check, c, -1, 255, 1);
    }

    /** Columns of 4 cells are read as their first one, as all four are painted. */
    private static ColourCharts fourColumns() {
        ColourCharts c = Scenes.sixteenCells();
        for (int cell = 0; cell < 16; cell++) {
            int x = 10 + cell % 4 * 10;
            Scenes.patch(c, cell, x, x, x);
        }
        c.grid(4, 1);
        return c;
    }

    private static void fitBeyond(Check check) {
        ColourCharts c = fourColumns();
        c.target(0, 11, 11, 11);
        c.target(3, 41, 41, 41);
        c.target(4, 255, 255, 255);
        c.target(15, 0, 0, 0);
        check.due("fit", c.fit(), 2);
        lineIs(check, c, 1, 1, 1);
        c.target(3, -1, 0, 0);
        check.due("fit, one in the grid", c.fit(), 1);
    }

    private static void neutralBeyond(Check check) {
        ColourCharts c = fourColumns();
        c.target(0, 10, 10, 10);
        c.target(1, 30, 30, 30);
        c.target(2, 20, 20, 20);
        c.target(4, 255, 255, 255);
        c.neutral(4);
        check.due("fit", c.fit(), 3);
        lineIs(check, c, 1, 20, 2);
        c.neutral(2);
        c.fit();
        lineIs(check, c, 1, 70, 5);
        c.neutral(4);
        c.grid(4, 2);
        check.due("fit with 4 in the grid", c.fit(), 4);
        check.due("it goes through 4", c.colour(0, 10), 255);
    }

    private static void fitNotFound(Check check) {
        ColourCharts c = new ColourCharts(6, 6);
        Scenes.frame(c, 0, 0, 5, 5);
        c.target(0, 1, 1, 1);
        c.target(1, 1, 1, 1);
        check.noState("fit before find", c::fit);
        check.noState("line", () -> c.line(0, 0));
        c.pixel(0, 0, 0, 41);
        check.due("find", c.find(), false);
        check.noState("fit of none found", c::fit);
    }

    private static void oneX(Check check) {
        lineIs(check, fitted(50, 10, 50, 11, 50, 13), 0, 34, 3);
        lineIs(check, fitted(0, 10, 0, 20), 0, 15, 1);
        lineIs(check, fitted(255, 1, 255, 2), 0, 3, 2);
    }

    private static void twoX(Check check) {
        lineIs(check, fitted(50, 10, 50, 20, 51, 16), 1, -35, 1);
        lineIs(check, fitted(50, 7, 51, 7), 0, 7, 1);
    }

    private static ColourCharts held(int neutral, int... pairs) {
        ColourCharts c = fitted(pairs);
        c.neutral(neutral);
        c.fit();
        return c;
    }

    private static void heldOneX(Check check) {
        lineIs(check, held(2, 50, 10, 50, 11, 50, 13), 0, 13, 1);
        lineIs(check, held(0, 255, 0, 255, 255), 0, 0, 1);
        lineIs(check, held(1, 0, 0, 0, 255), 0, 255, 1);
    }

    private static void heldTwoX(Check check) {
        lineIs(check, held(0, 50, 10, 50, 255, 51, 13), 3, -140, 1);
        lineIs(check, held(2, 50, 10, 50, 11, 51, 13), 5, -229, 2);
        lineIs(check, held(0, 50, 10, 49, 8, 51, 12), 2, -90, 1);
    }

    private static void fallingLines(Check check) {
        lineIs(check, fitted(10, 20, 20, 10), -1, 30, 1);
        lineIs(check, fitted(20, 10, 10, 20), -1, 30, 1);
        lineIs(check, fitted(10, 11, 12, 10), -1, 32, 2);
        lineIs(check, held(0, 10, 11, 12, 10), -1, 32, 2);
        lineIs(check, held(1, 10, 11, 12, 10), -1, 32, 2);
    }

    private static void lessenedLines(Check check) {
        lineIs(check, fitted(0, 4, 6, 8), 2, 12, 3);
        lineIs(check, fitted(0, 1, 6, 5), 2, 3, 3);
        lineIs(check, fitted(0, 0, 100, 100), 1, 0, 1);
        lineIs(check, fitted(9, 2, 9, 4, 9, 6, 9, 8), 0, 5, 1);
        lineIs(check, held(0, 0, 4, 6, 8), 2, 12, 3);
    }

    private static void lineOfNothing(Check check) {
        lineIs(check, fitted(9, 0, 9, 0, 9, 0), 0, 0, 1);
        lineIs(check, fitted(9, 0, 19, 0, 29, 0), 0, 0, 1);
        lineIs(check, held(0, 9, 0, 19, 0, 29, 0), 0, 0, 1);
        lineIs(check, held(0, 9, 0, 9, 0), 0, 0, 1);
    }

    private static void steepestLine(Check check) {
        lineIs(check, fitted(254, 0, 255, 255), 255, -64770, 1);
        lineIs(check, fitted(254, 255, 255, 0), -255, 65025, 1);
        lineIs(check, held(1, 254, 0, 255, 255), 255, -64770, 1);
    }

    private static void wideLine(Check check) {
        lineIs(check, fitted(0, 0, 255, 1), 1, 0, 255);
        lineIs(check, fitted(0, 0, 1, 0, 255, 1), 509, -254, 129542);
        int[] x = new int[16];
        int[] y = new int[16];
        for (int i = 8; i < 16; i++) {
            x[i] = i < 15 ? 255 : 254;
            y[i] = 255;
        }
        ColourCharts c = points(x, y);
        c.fit();
        lineIs(check, c, 277304, 119, 277169);
    }

    private static void heldLine(Check check) {
        lineIs(check, held(0, 10, 20, 20, 30, 40, 70), 8, 20, 5);
        lineIs(check, held(1, 10, 20, 20, 30, 40, 70), 9, -30, 5);
    }

    private static void lineOfNoPart(Check check) {
        ColourCharts c = fitted(0, 0, 10, 10);
        for (int no : new int[] {-1, 3, Integer.MIN_VALUE, Integer.MAX_VALUE}) {
            check.noCell("line of part " + no, () -> c.line(no, 0));
        }
    }

    private static void lineOfNoWhat(Check check) {
        ColourCharts c = fitted(0, 0, 10, 10);
        for (int no : new int[] {-1, 3, Integer.MIN_VALUE, Integer.MAX_VALUE}) {
            check.noCell("line, what " + no, () -> c.line(0, no));
        }
    }

    private static void lineOfNoFit(Check check) {
        ColourCharts c = points(new int[] {0, 10}, new int[] {0, 10});
        check.noState("line", () -> c.line(0, 0));
        check.noState("line", () -> c.line(2, 2));
    }

    private static void latestLine(Check check) {
        ColourCharts c = fitted(0, 0, 10, 10);
        c.target(1, 20, 20, 20);
        lineIs(check, c, 1, 0, 1);
        c.fit();
        lineIs(check, c, 2, 0, 1);
        c.pixel(0, 0, 0, 41);
        check.due("find", c.find(), false);
        lineIs(check, c, 2, 0, 1);
    }

    private static void coloursAre(Check check, ColourCharts c, int v, int want) {
        for (int part = 0; part < 3; part++) {
            check.due("colour of " + v + ", part " + part, c.colour(part, v), want);
        }
    }

    private static void colourHalves(Check check) {
        ColourCharts rising = fitted(0, 0, 2, 1);
        coloursAre(check, rising, 1, 1);
        coloursAre(check, rising, 3, 2);
        coloursAre(check, rising, 255, 128);
        ColourCharts falling = fitted(200, 1, 202, 0);
        coloursAre(check, falling, 201, 1);
        coloursAre(check, falling, 203, 0);
        coloursAre(check, fitted(0, 254, 2, 255), 1, 255);
    }

    private static void colourThirds(Check check) {
        ColourCharts c = fitted(0, 0, 3, 1);
        coloursAre(check, c, 0, 0);
        coloursAre(check, c, 1, 0);
        coloursAre(check, c, 2, 1);
        coloursAre(check, c, 254, 85);
        coloursAre(check, c, 253, 84);
    }

    private static void colourBelow(Check check) {
        ColourCharts c = fitted(254, 0, 255, 255);
        coloursAre(check, c, 254, 0);
        coloursAre(check, c, 253, 0);
        coloursAre(check, c, 0, 0);
        ColourCharts slow = fitted(250, 1, 252, 0);
        coloursAre(check, slow, 255, 0);
    }

    private static void colourAbove(Check check) {
        ColourCharts c = fitted(0, 0, 1, 255);
        coloursAre(check, c, 1, 255);
        coloursAre(check, c, 2, 255);
        coloursAre(check, c, 255, 255);
        ColourCharts slow = fitted(0, 254, 2, 255);
        coloursAre(check, slow, 3, 255);
        coloursAre(check, slow, 4, 255);
    }

    private static void colourOfNoValue(Check check) {
        ColourCharts c = fitted(0, 0, 10, 10);
        for (int v : new int[] {-1, 256, Integer.MIN_VALUE, Integer.MAX_VALUE}) {
            check.noArgument("colour of " + v, () -> c.colour(0, v));
        }
        coloursAre(check, c, 0, 0);
        coloursAre(check, c, 255, 255);
    }

    private static void colourOfNoPart(Check check) {
        ColourCharts c = fitted(0, 0, 10, 10);
        for (int no : new int[] {-1, 3, Integer.MIN_VALUE, Integer.MAX_VALUE}) {
            check.noCell("colour of part " + no, () -> c.colour(no, 5));
        }
    }

    private static void colourOfNoFit(Check check) {
        ColourCharts c = points(new int[] {0}, new int[] {0});
        check.noState("colour", () -> c.colour(0, 0));
        c.fit();
        check.noState("colour after a fit of one", () -> c.colour(2, 255));
    }

    private static void differenceOfNone(Check check) {
        ColourCharts c = fitted(0, 0, 10, 10);
        check.due("of a patch never told", c.difference(15), NONE);
        c.target(0, -1, 0, 0);
        check.due("of a patch that has none any more", c.difference(0), NONE);
    }

    private static void leastDifference(Check check) {
        ColourCharts c = fitted(0, 0, 10, 10);
        check.due("of a patch on the line", c.difference(1), 0);
        c.target(1, 11, 10, 10);
        check.due("one red off", c.difference(1), 2);
        c.target(1, 10, 9, 10);
        check.due("one green off", c.difference(1), 4);
        c.target(1, 10, 10, 11);
        check.due("one blue off", c.difference(1), 3);
    }

    private static void greatestDifference(Check check) {
        ColourCharts c = fitted(0, 0, 10, 10);
        c.target(2, 0, 0, 0);
        check.due("255 for 0", c.difference(2), 585225);
        c.target(0, 255, 255, 255);
        check.due("0 for 255", c.difference(0), 585225);
    }

    private static void heldDifference(Check check) {
        ColourCharts c = fitted(254, 0, 255, 255);
        point(c, 3, 0, 0);
        check.due("far below the line's 0", c.difference(3), 0);
        ColourCharts above = fitted(0, 0, 1, 255);
        point(above, 3, 255, 255);
        check.due("far above the line's 255", above.difference(3), 0);
    }

    private static void differenceNow(Check check) {
        ColourCharts c = fitted(0, 0, 10, 10);
        c.pixel(2, 1, 1, 12);
        check.due("two greens off", c.difference(1), 16);
        c.light(2, 1, 0);
        check.due("without light", c.difference(1), 900);
    }

    private static void differenceByLatest(Check check) {
        ColourCharts c = fitted(0, 0, 10, 10);
        c.target(1, 20, 20, 20);
        check.due("by the fit before the target", c.difference(1), 900);
        check.due("fit", c.fit(), 2);
        check.due("by the fit after it", c.difference(1), 0);
        c.target(0, -1, 0, 0);
        c.target(1, 19, 20, 20);
        check.due("fit of one", c.fit(), 1);
        check.due("by the former fit", c.difference(1), 2);
    }

    private static void differenceNowhere(Check check) {
        ColourCharts c = fitted(0, 0, 10, 10);
        c.target(15, 1, 1, 1);
        for (int no : new int[] {-1, 16, Integer.MIN_VALUE, Integer.MAX_VALUE}) {
            check.noCell("difference " + no, () -> c.difference(no));
        }
        c.grid(3, 4);
        check.due("the last one of the grid", c.difference(11), NONE);
        check.noCell("difference 12", () -> c.difference(12));
        check.noCell("difference 15, with a target", () -> c.difference(15));
    }

    private static void differenceNotFound(Check check) {
        ColourCharts c = fitted(0, 0, 10, 10);
        c.pixel(0, 0, 0, 41);
        check.due("find", c.find(), false);
        check.noState("difference", () -> c.difference(0));
    }

    private static void differenceNotFitted(Check check) {
        ColourCharts c = points(new int[] {0}, new int[] {0});
        check.noState("difference", () -> c.difference(0));
        check.due("fit of one", c.fit(), 1);
        check.noState("difference after a fit of one", () -> c.difference(0));
    }
}
