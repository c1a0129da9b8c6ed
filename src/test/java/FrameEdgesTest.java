/** The boundary cases of promises 5 and 6: find, box. */
public final class FrameEdgesTest {
    private static final int[] NO_SIDES = {-1, 4, 5, Integer.MIN_VALUE, Integer.MAX_VALUE};

    public static void main(String[] args) {
        Edges edges = new Edges();
        dark(edges);
        find(edges);
        box(edges);
        edges.end("FrameEdgesTest", 5, 6);
    }

    private static void dark(Edges edges) {
        String dark = "whose three parts (not lit) are not above 40";
        edges.edge(5, dark, "40 is dark", FrameEdgesTest::fortyIsDark);
        edges.edge(5, dark, "41 in one part is not", FrameEdgesTest::fortyOneIsNot);
        edges.edge(5, dark, "light does not matter", FrameEdgesTest::darkNotLit);
        String box = "the least box that has all dark cells";
        edges.edge(5, box, "no dark cell", FrameEdgesTest::noDarkCell);
        edges.edge(5, box, "one dark cell", FrameEdgesTest::oneDarkCell);
        edges.edge(5, box, "all cells dark", FrameEdgesTest::allDark);
        edges.edge(5, box, "one dark cell beyond the frame", FrameEdgesTest::darkBeyond);
        edges.edge(5, box, "dark cells within the frame", FrameEdgesTest::darkWithin);
        edges.edge(5, box, "a lesser box than before", FrameEdgesTest::lesserBox);
    }

    private static void find(Edges edges) {
        String least = "the box is at least 6 wide and high";
        edges.edge(5, least, "5 wide", FrameEdgesTest::fiveWide);
        edges.edge(5, least, "5 high", FrameEdgesTest::fiveHigh);
        edges.edge(5, least, "6 wide and 6 high", FrameEdgesTest::sixBySix);
        edges.edge(5, "all cells of its border are dark", "any one is not", FrameEdgesTest::brokenBorder);
        edges.edge(5, "all cells of its border are dark", "one cell wide is enough", FrameEdgesTest::greatestFrame);
        edges.edge(5, "it stays as it was found, whatever cells become", "cells change", FrameEdgesTest::stays);
        edges.edge(5, "it stays as it was found, whatever cells become", "until find", FrameEdgesTest::foundElsewhere);
        edges.edge(5, "if it is not found, there is none any more", "after a frame", FrameEdgesTest::noneAnyMore);
        edges.edge(5, "if it is not found, there is none any more", "it can come back", FrameEdgesTest::foundAgain);
    }

    private static void box(Edges edges) {
        edges.edge(6, "0 left, 1 top, 2 right, 3 bottom", "each its own", FrameEdgesTest::fourSides);
        edges.edge(6, "there is no such cell, part, patch, rule, what", "4 and others", FrameEdgesTest::noSuchSide);
        edges.edge(6, "IllegalStateException: none is found", "find never called", FrameEdgesTest::neverLookedFor);
        edges.edge(6, "IllegalStateException: none is found", "find said no", FrameEdgesTest::notFound);
    }

    private static void boxIs(Check check, ColourCharts c, int left, int top, int right, int bottom) {
        check.due("left", c.box(0), left);
        check.due("top", c.box(1), top);
        check.due("right", c.box(2), right);
        check.due("bottom", c.box(3), bottom);
    }

    private static ColourCharts framed(int left, int top, int right, int bottom) {
        ColourCharts c = new ColourCharts(right + 3, bottom + 3);
        Scenes.frame(c, left, top, right, bottom);
        return c;
    }

    private static void fortyIsDark(Check check) {
        ColourCharts c = framed(1, 1, 6, 6);
        Scenes.grey(c, 1, 1, 40);
        Scenes.grey(c, 6, 4, 40);
        check.due("find", c.find(), true);
    }

    private static void fortyOneIsNot(Check check) {
        for (int part = 0; part < 3; part++) {
            ColourCharts c = framed(1, 1, 6, 6);
            c.pixel(6, 4, part, 41);
            check.due("find, 41 in part " + part + " of a border's cell", c.find(), false);
            c.pixel(6, 4, part, 0);
            Scenes.grey(c, 0, 0, 0);
            c.pixel(0, 0, part, 41);
            check.due("find, 41 in part " + part + " of a cell beyond", c.find(), true);
        }
    }

    private static void darkNotLit(Check check) {
        ColourCharts c = framed(1, 1, 6, 6);
        Scenes.grey(c, 6, 4, 40);
        c.light(6, 4, 1);
        check.due("find, a border's cell of 40 lit to 255", c.find(), true);
        c.light(0, 0, 0);
        check.due("find, a cell of 255 beyond lit to 0", c.find(), true);
        Scenes.grey(c, 6, 4, 41);
        c.light(6, 4, 255);
        check.due("find, a border's cell of 41 lit to 32", c.find(), false);
    }

    private static void noDarkCell(Check check) {
        ColourCharts c = new ColourCharts(6, 6);
        check.due("find", c.find(), false);
        check.noState("box", () -> c.box(0));
    }

    private static void oneDarkCell(Check check) {
        int[][] cells = {{0, 0}, {7, 7}, {3, 4}};
        for (int[] cell : cells) {
            ColourCharts c = new ColourCharts(8, 8);
            Scenes.grey(c, cell[0], cell[1], 0);
            check.due("find, dark " + cell[0] + ", " + cell[1], c.find(), false);
        }
    }

    private static void allDark(Check check) {
        ColourCharts c = new ColourCharts(6, 7);
        for (int cell = 0; cell < 42; cell++) {
            Scenes.grey(c, cell % 6, cell / 6, 0);
        }
        check.due("find", c.find(), true);
        boxIs(check, c, 0, 0, 5, 6);
        check.due("a patch of dark cells", c.read(0, 0), 0);
    }

    private static void darkBeyond(Check check) {
        int[][] cells = {{1, 4}, {8, 4}, {4, 1}, {4, 8}, {0, 4}, {9, 4}, {4, 0}, {4, 9}, {1, 1}, {9, 9}, {0, 9}, {9, 0}};
        for (int[] cell : cells) {
            ColourCharts c = framed(2, 2, 7, 7);
            check.due("find", c.find(), true);
            Scenes.grey(c, cell[0], cell[1], 40);
            check.due("find, dark too " + cell[0] + ", " + cell[1], c.find(), false);
        }
    }

    private static void darkWithin(Check check) {
        ColourCharts c = framed(1, 1, 7, 8);
        Scenes.grey(c, 2, 2, 0);
        Scenes.grey(c, 4, 4, 0);
        Scenes.grey(c, 6, 7, 0);
        check.due("find", c.find(), true);
        boxIs(check, c, 1, 1, 7, 8);
    }

    private static void lesserBox(Check check) {
        ColourCharts c = new ColourCharts(8, 8);
        Scenes.frame(c, 0, 0, 7, 7);
        check.due("find", c.find(), true);
        Scenes.frame(c, 1, 1, 6, 6);
        for (int i = 0; i < 8; i++) {
            c.pixel(i, 0, 0, 41);
            c.pixel(i, 7, 1, 41);
            c.pixel(0, i, 2, 41);
            c.pixel(7, i, 0, 41);
        }
        check.due("find again", c.find(), true);
        boxIs(check, c, 1, 1, 6, 6);
    }

    private static void fiveWide(Check check) {
        check.due("find, 5 by 6", framed(1, 1, 5, 6).find(), false);
        check.due("find, 5 by 30", framed(0, 0, 4, 29).find(), false);
        check.due("find, 6 by 6", framed(1, 1, 6, 6).find(), true);
    }

    private static void fiveHigh(Check check) {
        check.due("find, 6 by 5", framed(1, 1, 6, 5).find(), false);
        check.due("find, 30 by 5", framed(0, 0, 29, 4).find(), false);
        check.due("find, 30 by 1", framed(0, 3, 29, 3).find(), false);
    }

    private static void sixBySix(Check check) {
        ColourCharts c = framed(2, 1, 7, 6);
        check.due("find", c.find(), true);
        boxIs(check, c, 2, 1, 7, 6);
        ColourCharts whole = new ColourCharts(6, 6);
        Scenes.frame(whole, 0, 0, 5, 5);
        check.due("find in a picture of 6 by 6", whole.find(), true);
        boxIs(check, whole, 0, 0, 5, 5);
    }

    private static void brokenBorder(Check check) {
        for (int y = 1; y <= 7; y++) {
            for (int x = 2; x <= 8; x++) {
                boolean border = x == 2 || x == 8 || y == 1 || y == 7;
                ColourCharts c = framed(2, 1, 8, 7);
                Scenes.grey(c, x, y, 41);
                check.due("find, bright " + x + ", " + y, c.find(), !border);
            }
        }
    }

    private static void greatestFrame(Check check) {
        ColourCharts c = new ColourCharts(30, 30);
        Scenes.frame(c, 0, 0, 29, 29);
        check.due("find", c.find(), true);
        boxIs(check, c, 0, 0, 29, 29);
    }

    private static void stays(Check check) {
        ColourCharts c = framed(1, 1, 6, 7);
        check.due("find", c.find(), true);
        for (int x = 1; x <= 6; x++) {
            Scenes.grey(c, x, 1, 255);
        }
        Scenes.grey(c, 0, 0, 0);
        Scenes.grey(c, 8, 9, 0);
        boxIs(check, c, 1, 1, 6, 7);
        c.pixel(2, 2, 0, 9);
        c.grid(4, 4);
        check.due("patches are read within it", c.read(0, 0), 132);
    }

    private static void foundElsewhere(Check check) {
        ColourCharts c = framed(1, 1, 6, 7);
        check.due("find", c.find(), true);
        Scenes.frame(c, 0, 0, 8, 9);
        boxIs(check, c, 1, 1, 6, 7);
        check.due("find again", c.find(), true);
        boxIs(check, c, 0, 0, 8, 9);
    }

    private static ColourCharts lost(Check check) {
        ColourCharts c = framed(0, 0, 5, 5);
        c.target(0, 1, 1, 1);
        c.target(1, 1, 1, 1);
        check.due("find", c.find(), true);
        check.due("fit", c.fit(), 2);
        Scenes.grey(c, 5, 5, 255);
        check.due("find, broken", c.find(), false);
        return c;
    }

    private static void noneAnyMore(Check check) {
        ColourCharts c = lost(check);
        check.noState("box", () -> c.box(0));
        check.noState("read", () -> c.read(0, 0));
        check.noState("noise", () -> c.noise(0, 0));
        check.noState("fit", c::fit);
        check.noState("difference", () -> c.difference(0));
        check.noState("reject", c::reject);
    }

    private static void foundAgain(Check check) {
        ColourCharts c = lost(check);
        Scenes.grey(c, 5, 5, 0);
        check.noState("box before find", () -> c.box(0));
        check.due("find, mended", c.find(), true);
        boxIs(check, c, 0, 0, 5, 5);
    }

    private static void fourSides(Check check) {
        ColourCharts c = new ColourCharts(30, 30);
        Scenes.frame(c, 3, 5, 17, 26);
        check.due("find", c.find(), true);
        boxIs(check, c, 3, 5, 17, 26);
    }

    private static void noSuchSide(Check check) {
        ColourCharts c = framed(1, 1, 6, 6);
        check.due("find", c.find(), true);
        for (int what : NO_SIDES) {
            check.noCell("box " + what, () -> c.box(what));
        }
    }

    private static void neverLookedFor(Check check) {
        ColourCharts c = framed(1, 1, 6, 6);
        for (int side = 0; side < 4; side++) {
            int what = side;
            check.noState("box " + what, () -> c.box(what));
        }
    }

    private static void notFound(Check check) {
        ColourCharts c = framed(1, 1, 6, 5);
        check.due("find", c.find(), false);
        for (int side = 0; side < 4; side++) {
            int what = side;
            check.noState("box " + what, () -> c.box(what));
        }
    }
}
