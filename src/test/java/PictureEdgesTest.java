/** The boundary cases of promises 1 to 4: a new object, pixel, light, lit. */
public final class PictureEdgesTest {
    private static final int[] NO_VALUES = {-1, 256, -256, 511, 65536, Integer.MIN_VALUE, Integer.MAX_VALUE};
    private static final int[] NO_PARTS = {-1, 3, Integer.MIN_VALUE, Integer.MAX_VALUE};
    /** Of a picture 7 wide and 9 high: x, y. */
    private static final int[][] NO_CELLS = {{-1, 0}, {-1, 1}, {7, 0}, {7, 8}, {8, 6}, {0, -1}, {6, -1}, {0, 9}, {6, 9},
        {Integer.MIN_VALUE, 0}, {Integer.MAX_VALUE, 8}, {0, Integer.MIN_VALUE}, {6, Integer.MAX_VALUE}};

    public static void main(String[] args) {
        Edges edges = new Edges();
        newObject(edges);
        pixelAndLight(edges);
        lit(edges);
        edges.end("PictureEdgesTest", 1, 4);
    }

    private static void newObject(Edges edges) {
        String sizes = "what is given below or above that counts as the least or the greatest";
        edges.edge(1, sizes, "5 and less are 6", PictureEdgesTest::tooSmall);
        edges.edge(1, sizes, "31 and more are 30", PictureEdgesTest::tooLarge);
        edges.edge(1, "WIDTH and HEIGHT 6 .. 30", "6, 7, 29 and 30 stay", PictureEdgesTest::sizesThatStay);
        edges.edge(1, "all 255 at first", "every part of every cell", PictureEdgesTest::firstParts);
        edges.edge(1, "a LIGHT 0 .. 255 (200 at first)", "every cell", PictureEdgesTest::firstLights);
        edges.edge(1, "no targets, rules, days", "all counts are 0", PictureEdgesTest::emptyCounts);
        edges.edge(1, "nothing found or fitted", "nothing found", PictureEdgesTest::nothingFound);
        edges.edge(1, "nothing found or fitted", "nothing fitted", PictureEdgesTest::nothingFitted);
        edges.edge(1, "An object is used for at most 512 calls", "the 512th", PictureEdgesTest::lastCall);
    }

    private static void pixelAndLight(Edges edges) {
        String nowhere = "there is no such cell, part, patch, rule, what";
        edges.edge(2, "A part of a cell: what it was", "0 and 255 are kept", PictureEdgesTest::extremeParts);
        edges.edge(2, "A part of a cell: what it was", "corners are cells", PictureEdgesTest::cornerParts);
        edges.edge(2, "A part of a cell: what it was", "no other one changes", PictureEdgesTest::neighbourParts);
        edges.edge(2, "v is not 0 .. 255", "-1, 256 and beyond", PictureEdgesTest::wrongParts);
        edges.edge(2, nowhere, "cells", PictureEdgesTest::pixelNowhere);
        edges.edge(2, nowhere, "parts", PictureEdgesTest::pixelOfNoPart);
        edges.edge(3, "A cell's light: what it was", "0 and 255 are kept", PictureEdgesTest::extremeLights);
        edges.edge(3, "A cell's light: what it was", "corners are cells", PictureEdgesTest::cornerLights);
        edges.edge(3, "v is not 0 .. 255", "-1, 256 and beyond", PictureEdgesTest::wrongLights);
        edges.edge(3, nowhere, "cells", PictureEdgesTest::lightNowhere);
    }

    private static void lit(Edges edges) {
        String nowhere = "there is no such cell, part, patch, rule, what";
        edges.edge(4, "to the nearest whole number, halves up", "halves", PictureEdgesTest::litHalves);
        edges.edge(4, "to the nearest whole number, halves up", "next to halves", PictureEdgesTest::litNextToHalves);
        edges.edge(4, "255 at most", "more than 255 is 255", PictureEdgesTest::litTooMuch);
        edges.edge(4, "with light 0 it is 0", "any value without light", PictureEdgesTest::litWithoutLight);
        edges.edge(4, "its value times 200, divided by its light", "the least and the greatest", PictureEdgesTest::litExtremes);
        edges.edge(4, nowhere, "cells", PictureEdgesTest::litNowhere);
        edges.edge(4, nowhere, "parts", PictureEdgesTest::litOfNoPart);
    }

    /** That the picture has just this size: its last cell is there, and none beyond it. */
    private static void size(Check check, int givenWidth, int givenHeight, int width, int height) {
        ColourCharts c = new ColourCharts(givenWidth, givenHeight);
        String given = givenWidth + " by " + givenHeight + ", ";
        check.due(given + "width", c.count(0), width);
        check.due(given + "height", c.count(1), height);
        check.due(given + "the last cell", c.pixel(width - 1, height - 1, 2, 7), 255);
        check.noCell(given + "one to the right", () -> c.pixel(width, height - 1, 2, 7));
        check.noCell(given + "one below", () -> c.pixel(width - 1, height, 2, 7));
    }

    private static void tooSmall(Check check) {
        for (int small : new int[] {5, 1, 0, -1, -30, Integer.MIN_VALUE}) {
            size(check, small, 9, 6, 9);
            size(check, 9, small, 9, 6);
            size(check, small, small, 6, 6);
        }
    }

    private static void tooLarge(Check check) {
        for (int large : new int[] {31, 60, 65536, Integer.MAX_VALUE}) {
            size(check, large, 9, 30, 9);
            size(check, 9, large, 9, 30);
            size(check, large, large, 30, 30);
        }
        size(check, Integer.MIN_VALUE, Integer.MAX_VALUE, 6, 30);
        size(check, Integer.MAX_VALUE, Integer.MIN_VALUE, 30, 6);
    }

    private static void sizesThatStay(Check check) {
        int[] sizes = {6, 7, 29, 30};
        for (int width : sizes) {
            for (int height : sizes) {
                size(check, width, height, width, height);
            }
        }
    }

    private static void firstParts(Check check) {
        ColourCharts c = new ColourCharts(7, 9);
        for (int cell = 0; cell < 63; cell++) {
            for (int part = 0; part < 3; part++) {
                check.due("part " + part + " of cell " + cell, c.pixel(cell % 7, cell / 7, part, 9), 255);
            }
        }
    }

    private static void firstLights(Check check) {
        ColourCharts c = new ColourCharts(7, 9);
        for (int cell = 0; cell < 63; cell++) {
            check.due("light of cell " + cell, c.light(cell % 7, cell / 7, 9), 200);
        }
    }

    private static void emptyCounts(Check check) {
        ColourCharts c = new ColourCharts(6, 6);
        check.due("targets", c.count(2), 0);
        check.due("rules", c.count(3), 0);
        check.due("days", c.count(4), 0);
        check.due("signs", c.count(5), 0);
        check.due("neutral", c.neutral(ColourCharts.NONE), ColourCharts.NONE);
    }

    private static void nothingFound(Check check) {
        ColourCharts c = new ColourCharts(6, 6);
        check.noState("box", () -> c.box(0));
        check.noState("read", () -> c.read(0, 0));
        check.noState("noise", () -> c.noise(0, 0));
        check.noState("fit", c::fit);
    }

    private static void nothingFitted(Check check) {
        ColourCharts c = new ColourCharts(6, 6);
        Scenes.frame(c, 0, 0, 5, 5);
        check.due("find", c.find(), true);
        check.noState("line", () -> c.line(0, 0));
        check.noState("colour", () -> c.colour(0, 0));
        check.noState("difference", () -> c.difference(0));
        check.noState("reject", c::reject);
    }

    private static void lastCall(Check check) {
        ColourCharts c = new ColourCharts(6, 6);
        for (int i = 0; i < 511; i++) {
            check.due("pixel, call " + (i + 1), c.pixel(3, 3, 1, i % 256), i == 0 ? 255 : (i - 1) % 256);
        }
        check.due("lit, call 512", c.lit(3, 3, 1), 254);
    }

    private static void extremeParts(Check check) {
        ColourCharts c = new ColourCharts(7, 9);
        for (int part = 0; part < 3; part++) {
            check.dueText("pixel 0", Check.told(callPixel(c, part, 0)), "255");
            check.dueText("pixel 255", Check.told(callPixel(c, part, 255)), "0");
            check.dueText("pixel 1", Check.told(callPixel(c, part, 1)), "255");
        }
    }

    private static Check.Call callPixel(ColourCharts c, int part, int v) {
        return () -> c.pixel(2, 3, part, v);
    }

    private static void cornerParts(Check check) {
        ColourCharts c = new ColourCharts(7, 9);
        int[][] corners = {{0, 0}, {6, 0}, {0, 8}, {6, 8}};
        for (int i = 0; i < 4; i++) {
            check.due("corner " + i, c.pixel(corners[i][0], corners[i][1], 2, i), 255);
        }
        for (int i = 0; i < 4; i++) {
            check.due("corner " + i + " again", c.pixel(corners[i][0], corners[i][1], 2, 9), i);
        }
    }

    private static void neighbourParts(Check check) {
        ColourCharts c = new ColourCharts(7, 9);
        check.due("pixel", c.pixel(6, 3, 2, 1), 255);
        check.due("the next part", c.pixel(6, 3, 1, 2), 255);
        check.due("the next row's first cell", c.pixel(0, 4, 0, 3), 255);
        check.due("the cell below", c.pixel(6, 4, 2, 4), 255);
        check.due("x and y changed for one another", c.pixel(3, 6, 2, 5), 255);
        check.due("its light", c.light(6, 3, 200), 200);
        check.due("pixel again", c.pixel(6, 3, 2, 6), 1);
    }

    private static void wrongParts(Check check) {
        ColourCharts c = new ColourCharts(7, 9);
        for (int v : NO_VALUES) {
            for (int part = 0; part < 3; part++) {
                check.dueText("pixel " + v, Check.told(callPixel(c, part, v)), "throws.IllegalArgumentException");
                check.due("what it was stays", c.lit(2, 3, part), 255);
            }
        }
    }

    private static void pixelNowhere(Check check) {
        ColourCharts c = new ColourCharts(7, 9);
        for (int[] no : NO_CELLS) {
            check.noCell("pixel " + no[0] + ", " + no[1], () -> c.pixel(no[0], no[1], 0, 5));
        }
        allAsAtFirst(check, c);
    }

    private static void allAsAtFirst(Check check, ColourCharts c) {
        for (int cell = 0; cell < 63; cell++) {
            check.due("red of cell " + cell, c.lit(cell % 7, cell / 7, 0), 255);
        }
    }

    private static void pixelOfNoPart(Check check) {
        ColourCharts c = new ColourCharts(7, 9);
        for (int part : NO_PARTS) {
            check.noCell("pixel of part " + part, () -> c.pixel(3, 3, part, 5));
        }
        allAsAtFirst(check, c);
    }

    private static void extremeLights(Check check) {
        ColourCharts c = new ColourCharts(7, 9);
        check.dueText("light 0", Check.told(() -> c.light(2, 3, 0)), "200");
        check.dueText("light 255", Check.told(() -> c.light(2, 3, 255)), "0");
        check.dueText("light 1", Check.told(() -> c.light(2, 3, 1)), "255");
    }

    private static void cornerLights(Check check) {
        ColourCharts c = new ColourCharts(7, 9);
        int[][] corners = {{0, 0}, {6, 0}, {0, 8}, {6, 8}};
        for (int i = 0; i < 4; i++) {
            check.due("corner " + i, c.light(corners[i][0], corners[i][1], i), 200);
        }
        for (int i = 0; i < 4; i++) {
            check.due("corner " + i + " again", c.light(corners[i][0], corners[i][1], 9), i);
        }
        check.due("the next row's first cell", c.light(0, 1, 9), 200);
    }

    private static void wrongLights(Check check) {
        ColourCharts c = new ColourCharts(7, 9);
        for (int v : NO_VALUES) {
            check.noArgument("light " + v, () -> c.light(2, 3, v));
        }
        check.due("what it was stays", c.light(2, 3, 1), 200);
    }

    private static void lightNowhere(Check check) {
        ColourCharts c = new ColourCharts(7, 9);
        for (int[] no : NO_CELLS) {
            check.noCell("light " + no[0] + ", " + no[1], () -> c.light(no[0], no[1], 5));
        }
        for (int cell = 0; cell < 63; cell++) {
            check.due("light of cell " + cell, c.light(cell % 7, cell / 7, 1), 200);
        }
    }

    private static void litIs(Check check, int v, int light, int want) {
        ColourCharts c = new ColourCharts(6, 6);
        c.light(5, 5, light);
        for (int part = 0; part < 3; part++) {
            c.pixel(5, 5, part, v);
            check.due(v + " by light " + light, c.lit(5, 5, part), want);
        }
    }

    private static void litHalves(Check check) {
        litIs(check, 1, 16, 13);
        litIs(check, 1, 80, 3);
        litIs(check, 3, 240, 3);
        litIs(check, 9, 240, 8);
        litIs(check, 18, 160, 23);
    }

    private static void litNextToHalves(Check check) {
        litIs(check, 101, 201, 100);
        litIs(check, 100, 201, 100);
        litIs(check, 98, 199, 98);
        litIs(check, 100, 199, 101);
        litIs(check, 99, 199, 99);
        litIs(check, 1, 255, 1);
        litIs(check, 2, 255, 2);
        litIs(check, 3, 255, 2);
    }

    private static void litTooMuch(Check check) {
        litIs(check, 127, 100, 254);
        litIs(check, 128, 100, 255);
        litIs(check, 255, 199, 255);
        litIs(check, 255, 1, 255);
        litIs(check, 2, 1, 255);
    }

    private static void litWithoutLight(Check check) {
        for (int v : new int[] {0, 1, 40, 200, 255}) {
            litIs(check, v, 0, 0);
        }
    }

    private static void litExtremes(Check check) {
        litIs(check, 0, 1, 0);
        litIs(check, 1, 1, 200);
        litIs(check, 0, 255, 0);
        litIs(check, 255, 255, 200);
        litIs(check, 255, 200, 255);
        litIs(check, 254, 200, 254);
        litIs(check, 0, 200, 0);
    }

    private static void litNowhere(Check check) {
        ColourCharts c = new ColourCharts(7, 9);
        for (int[] no : NO_CELLS) {
            check.noCell("lit " + no[0] + ", " + no[1], () -> c.lit(no[0], no[1], 0));
        }
        check.due("the last cell", c.lit(6, 8, 0), 255);
    }

    private static void litOfNoPart(Check check) {
        ColourCharts c = new ColourCharts(7, 9);
        for (int part : NO_PARTS) {
            check.noCell("lit of part " + part, () -> c.lit(3, 3, part));
        }
        check.due("the last part", c.lit(3, 3, 2), 255);
    }
}
