/** The boundary cases of promises 7 to 10: grid, turn, read, noise. */
public final class PatchEdgesTest {
    private static final String NOWHERE = "there is no such cell, part, patch, rule, what";
    private static final int[] FAR = {Integer.MIN_VALUE, -1, Integer.MAX_VALUE};

    public static void main(String[] args) {
        Edges edges = new Edges();
        grid(edges);
        turn(edges);
        read(edges);
        noise(edges);
        edges.end("PatchEdgesTest", 7, 10);
    }

    private static void grid(Edges edges) {
        edges.edge(7, "(2 and 2 at first)", "four patches", PatchEdgesTest::firstGrid);
        edges.edge(7, "A GRID of COLUMNS 1 .. 4 and ROWS 1 .. 4", "the least", PatchEdgesTest::leastGrid);
        edges.edge(7, "A GRID of COLUMNS 1 .. 4 and ROWS 1 .. 4", "the greatest", PatchEdgesTest::greatestGrids);
        edges.edge(7, "The grid.", "before a frame is found, and after", PatchEdgesTest::gridBeforeFrame);
        edges.edge(7, "IllegalArgumentException: columns or rows", "columns", PatchEdgesTest::wrongColumns);
        edges.edge(7, "IllegalArgumentException: columns or rows", "rows", PatchEdgesTest::wrongRows);
        edges.edge(7, "with i * COLUMNS / n (rounded down) = c", "columns not alike", PatchEdgesTest::columnShares);
        edges.edge(7, "rows likewise", "rows not alike", PatchEdgesTest::rowShares);
        edges.edge(7, "parts what is within the frame", "no cell of it", PatchEdgesTest::withinTheFrame);
    }

    private static void turn(Edges edges) {
        edges.edge(8, "with a QUARTER (0 at first)", "a new object", PatchEdgesTest::firstQuarter);
        edges.edge(8, "The quarter: what it was. IllegalArgumentException.", "4 is not 0", PatchEdgesTest::wrongQuarters);
        edges.edge(8, "The quarter: what it was", "0 and 3", PatchEdgesTest::formerQuarters);
        edges.edge(8, "numbered row by row, from the upper left one on, each row from its left", "0",
            check -> numbered(check, 0, 100, 101, 102, 110, 111, 112));
        edges.edge(8, "1 column by column from the right, each from above", "1",
            check -> numbered(check, 1, 102, 112, 101, 111, 100, 110));
        edges.edge(8, "2 row by row from below, each from the right", "2",
            check -> numbered(check, 2, 112, 111, 110, 102, 101, 100));
        edges.edge(8, "3 column by column from the left, each from below", "3",
            check -> numbered(check, 3, 110, 100, 111, 101, 112, 102));
        edges.edge(8, "numbered row by row, from the upper left one on", "one column", PatchEdgesTest::oneColumn);
        edges.edge(8, "numbered row by row, from the upper left one on", "one row", PatchEdgesTest::oneRow);
    }

    private static void read(Edges edges) {
        String mean = "the mean of its cells' lit parts, to the nearest whole number, halves up";
        edges.edge(9, mean, "halves", PatchEdgesTest::meanOfHalf);
        edges.edge(9, mean, "next to a half", PatchEdgesTest::meanNextToHalf);
        edges.edge(9, mean, "each cell is lit for itself", PatchEdgesTest::meanOfLit);
        edges.edge(9, mean, "0 and 255", PatchEdgesTest::extremeMeans);
        edges.edge(9, "patch (there are columns times rows) or part", "patches", PatchEdgesTest::readOfNoPatch);
        edges.edge(9, "patch (there are columns times rows) or part", "parts", PatchEdgesTest::readOfNoPart);
        edges.edge(9, "IllegalStateException: none is found", "none", PatchEdgesTest::readOfNone);
    }

    private static void noise(Edges edges) {
        edges.edge(10, "of the fraction that cannot be lessened (0 / 1)", "all alike", PatchEdgesTest::noNoise);
        edges.edge(10, "of the fraction that cannot be lessened (0 / 1)", "one cell", PatchEdgesTest::noiseOfOneCell);
        edges.edge(10, "of the fraction that cannot be lessened (0 / 1)", "lessened", PatchEdgesTest::lessenedNoise);
        edges.edge(10, "how far its cells' lit greens are", "not reds and blues", PatchEdgesTest::noiseOfGreens);
        edges.edge(10, "how far its cells' lit greens are", "lit", PatchEdgesTest::noiseOfLit);
        edges.edge(10, "n times the sum of squares less the square of the sum, divided by n n", "the greatest patch",
            PatchEdgesTest::noiseOfGreatestPatch);
        edges.edge(10, NOWHERE, "patches", PatchEdgesTest::noiseOfNoPatch);
        edges.edge(10, "above (0), below (1)", "other parts", PatchEdgesTest::noiseOfNoPart);
        edges.edge(10, "IllegalStateException: none is found", "none", PatchEdgesTest::noiseOfNone);
    }

    /** A frame about so many cells, found. */
    private static ColourCharts about(int wide, int high) {
        ColourCharts c = new ColourCharts(wide + 2, high + 2);
        Scenes.frame(c, 0, 0, wide + 1, high + 1);
        c.find();
        return c;
    }

    private static void patchesAre(Check check, ColourCharts c, int patches) {
        check.due("the last of " + patches, c.read(patches - 1, 0), 255);
        check.noCell("one more than " + patches, () -> c.read(patches, 0));
    }

    private static void firstGrid(Check check) {
        ColourCharts c = about(4, 4);
        patchesAre(check, c, 4);
        c.pixel(3, 1, 0, 0);
        check.due("patch 1 is the right one above", c.read(1, 0), 191);
        c.pixel(2, 3, 0, 0);
        check.due("patch 2 is the left one below", c.read(2, 0), 191);
    }

    private static void leastGrid(Check check) {
        ColourCharts c = about(4, 4);
        c.grid(1, 1);
        patchesAre(check, c, 1);
        for (int cell = 0; cell < 16; cell++) {
            c.pixel(1 + cell % 4, 1 + cell / 4, 0, 0);
        }
        check.due("all cells are in it", c.read(0, 0), 0);
    }

    private static void greatestGrids(Check check) {
        ColourCharts c = about(4, 4);
        c.grid(4, 4);
        patchesAre(check, c, 16);
        c.grid(4, 1);
        patchesAre(check, c, 4);
        c.grid(1, 4);
        patchesAre(check, c, 4);
        c.grid(3, 4);
        patchesAre(check, c, 12);
    }

    private static void gridBeforeFrame(Check check) {
        ColourCharts c = new ColourCharts(6, 6);
        c.grid(3, 1);
        c.turn(1);
        check.noState("patch 2", () -> c.read(2, 0));
        check.noCell("patch 3", () -> c.read(3, 0));
        Scenes.frame(c, 0, 0, 5, 5);
        c.find();
        patchesAre(check, c, 3);
        c.grid(1, 2);
        c.find();
        patchesAre(check, c, 2);
    }

    private static void wrongColumns(Check check) {
        ColourCharts c = about(4, 4);
        c.grid(3, 1);
        for (int wrong : new int[] {0, 5, -1, -4, Integer.MIN_VALUE, Integer.MAX_VALUE}) {
            check.noArgument("grid " + wrong + ", 2", () -> Scenes.grid(c, wrong, 2));
        }
        patchesAre(check, c, 3);
    }

    private static void wrongRows(Check check) {
        ColourCharts c = about(4, 4);
        c.grid(1, 3);
        for (int wrong : new int[] {0, 5, -1, -4, Integer.MIN_VALUE, Integer.MAX_VALUE}) {
            check.noArgument("grid 2, " + wrong, () -> Scenes.grid(c, 2, wrong));
        }
        patchesAre(check, c, 3);
    }

    private static void readsOne(Check check, ColourCharts c, int patch, int patches, String cell) {
        for (int other = 0; other < patches; other++) {
            check.due(cell + " is in patch " + other, c.read(other, 0) < 255, other == patch);
        }
    }

    /** One dark red after the other tells by the reads which patch it is in: so many in each, from the first on. */
    private static void columnsHave(Check check, int... cells) {
        int wide = 0;
        for (int n : cells) {
            wide += n;
        }
        ColourCharts c = about(wide, 4);
        c.grid(cells.length, 1);
        int x = 1;
        for (int patch = 0; patch < cells.length; patch++) {
            for (int i = 0; i < cells[patch]; i++) {
                c.pixel(x, 2, 0, 0);
                readsOne(check, c, patch, cells.length, "column " + x + " of " + wide);
                c.pixel(x, 2, 0, 255);
                x++;
            }
        }
    }

    private static void columnShares(Check check) {
        columnsHave(check, 2, 1, 1);
        columnsHave(check, 2, 1, 1, 1);
        columnsHave(check, 2, 1, 2, 1);
        columnsHave(check, 4, 3);
        columnsHave(check, 3, 2, 2);
        columnsHave(check, 2, 2, 2, 1);
        columnsHave(check, 10, 9, 9);
        columnsHave(check, 1, 1, 1, 1);
        columnsHave(check, 5);
    }

    private static void rowsHave(Check check, int... cells) {
        int high = 0;
        for (int n : cells) {
            high += n;
        }
        ColourCharts c = about(4, high);
        c.grid(1, cells.length);
        int y = 1;
        for (int patch = 0; patch < cells.length; patch++) {
            for (int i = 0; i < cells[patch]; i++) {
                c.pixel(2, y, 0, 0);
                readsOne(check, c, patch, cells.length, "row " + y + " of " + high);
                c.pixel(2, y, 0, 255);
                y++;
            }
        }
    }

    private static void rowShares(Check check) {
        rowsHave(check, 2, 1, 1);
        rowsHave(check, 2, 1, 1, 1);
        rowsHave(check, 2, 1, 2, 1);
        rowsHave(check, 4, 3);
        rowsHave(check, 3, 2, 2);
        rowsHave(check, 2, 2, 2, 1);
        rowsHave(check, 10, 9, 9);
        rowsHave(check, 1, 1, 1, 1);
        rowsHave(check, 5);
    }

    private static void withinTheFrame(Check check) {
        ColourCharts c = new ColourCharts(9, 9);
        Scenes.frame(c, 1, 1, 7, 7);
        c.find();
        for (int i = 0; i < 9; i++) {
            Scenes.grey(c, i, 0, 100);
            Scenes.grey(c, i, 8, 100);
        }
        c.grid(1, 1);
        check.due("dark and outer cells are not read", c.read(0, 0), 255);
        check.due("they make no noise", c.noise(0, 0), 0);
        c.pixel(2, 2, 2, 0);
        c.pixel(6, 6, 2, 0);
        check.due("the corners within are read", c.read(0, 2), 235);
    }

    private static void firstQuarter(Check check) {
        check.due("turn", new ColourCharts(6, 6).turn(2), 0);
    }

    private static void wrongQuarters(Check check) {
        ColourCharts c = new ColourCharts(6, 6);
        c.turn(3);
        for (int wrong : new int[] {-1, 4, 5, 7, -4, Integer.MIN_VALUE, Integer.MAX_VALUE}) {
            check.noArgument("turn " + wrong, () -> c.turn(wrong));
        }
        check.due("turn", c.turn(0), 3);
    }

    private static void formerQuarters(Check check) {
        ColourCharts c = new ColourCharts(6, 6);
        check.due("turn 3", c.turn(3), 0);
        check.due("turn 3 again", c.turn(3), 3);
        check.due("turn 0", c.turn(0), 3);
        check.due("turn 1", c.turn(1), 0);
        check.due("turn 2", c.turn(2), 1);
    }

    /** Three columns and two rows; column c and row r are read as 100 + c + 10 r. */
    private static void numbered(Check check, int quarter, int... due) {
        ColourCharts c = about(6, 4);
        for (int cell = 0; cell < 24; cell++) {
            c.pixel(1 + cell % 6, 1 + cell / 6, 0, 100 + cell % 6 / 2 + cell / 12 * 10);
        }
        c.grid(3, 2);
        c.turn(quarter);
        for (int patch = 0; patch < 6; patch++) {
            check.due("patch " + patch, c.read(patch, 0), due[patch]);
        }
        check.noCell("patch 6", () -> c.read(6, 0));
    }

    private static void fourAre(Check check, ColourCharts c, int quarter, int... due) {
        c.turn(quarter);
        for (int patch = 0; patch < 4; patch++) {
            check.due("quarter " + quarter + ", patch " + patch, c.read(patch, 0), due[patch]);
        }
    }

    private static void oneColumn(Check check) {
        ColourCharts c = about(4, 4);
        for (int cell = 0; cell < 16; cell++) {
            c.pixel(1 + cell % 4, 1 + cell / 4, 0, 1 + cell / 4);
        }
        c.grid(1, 4);
        fourAre(check, c, 0, 1, 2, 3, 4);
        fourAre(check, c, 1, 1, 2, 3, 4);
        fourAre(check, c, 2, 4, 3, 2, 1);
        fourAre(check, c, 3, 4, 3, 2, 1);
    }

    private static void oneRow(Check check) {
        ColourCharts c = about(4, 4);
        for (int cell = 0; cell < 16; cell++) {
            c.pixel(1 + cell % 4, 1 + cell / 4, 0, 1 + cell % 4);
        }
        c.grid(4, 1);
        fourAre(check, c, 0, 1, 2, 3, 4);
        fourAre(check, c, 1, 4, 3, 2, 1);
        fourAre(check, c, 2, 4, 3, 2, 1);
        fourAre(check, c, 3, 1, 2, 3, 4);
    }

    /** One patch of 16 cells, of which so many have a red of 11, the others of 10. */
    private static ColourCharts elevens(int many) {
        ColourCharts c = about(4, 4);
        c.grid(1, 1);
        for (int cell = 0; cell < 16; cell++) {
            c.pixel(1 + cell % 4, 1 + cell / 4, 0, cell < many ? 11 : 10);
        }
        return c;
    }

    private static void meanOfHalf(Check check) {
        check.due("10 8/16", elevens(8).read(0, 0), 11);
    }

    private static void meanNextToHalf(Check check) {
        check.due("10 7/16", elevens(7).read(0, 0), 10);
        check.due("10 9/16", elevens(9).read(0, 0), 11);
        check.due("10", elevens(0).read(0, 0), 10);
        check.due("10 15/16", elevens(15).read(0, 0), 11);
        check.due("11", elevens(16).read(0, 0), 11);
    }

    /** Lit they are 3 (from 2.5) and 2 (from 2.2), so the mean is a half; of what is not rounded it is less. */
    private static void meanOfLit(Check check) {
        ColourCharts c = about(4, 8);
        c.grid(4, 4);
        c.pixel(1, 1, 2, 3);
        c.light(1, 1, 240);
        c.pixel(1, 2, 2, 2);
        c.light(1, 2, 182);
        check.due("read", c.read(0, 2), 3);
    }

    private static void extremeMeans(Check check) {
        ColourCharts c = about(4, 4);
        c.grid(1, 1);
        check.due("all 255", c.read(0, 1), 255);
        for (int cell = 0; cell < 16; cell++) {
            c.light(1 + cell % 4, 1 + cell / 4, 1);
        }
        check.due("all lit above 255", c.read(0, 1), 255);
        for (int cell = 0; cell < 16; cell++) {
            c.light(1 + cell % 4, 1 + cell / 4, 0);
        }
        check.due("none lit", c.read(0, 1), 0);
    }

    private static void readOfNoPatch(Check check) {
        ColourCharts c = about(4, 4);
        for (int side = 1; side <= 4; side++) {
            c.grid(side, 5 - side);
            int patches = side * (5 - side);
            patchesAre(check, c, patches);
            for (int far : FAR) {
                check.noCell("read of patch " + far, () -> c.read(far, 0));
            }
        }
    }

    private static void readOfNoPart(Check check) {
        ColourCharts c = about(4, 4);
        for (int far : FAR) {
            check.noCell("read of part " + far, () -> c.read(0, far));
        }
        check.noCell("read of part 3", () -> c.read(0, 3));
        check.due("read of part 2", c.read(0, 2), 255);
    }

    private static void readOfNone(Check check) {
        ColourCharts c = new ColourCharts(6, 6);
        Scenes.frame(c, 0, 0, 5, 5);
        check.noState("read before find", () -> c.read(3, 2));
        c.pixel(0, 0, 0, 41);
        check.due("find", c.find(), false);
        check.noState("read of none", () -> c.read(3, 2));
    }

    private static void noiseIs(Check check, ColourCharts c, long above, long below) {
        check.due("above", c.noise(0, 0), above);
        check.due("below", c.noise(0, 1), below);
    }

    private static void noNoise(Check check) {
        ColourCharts c = about(4, 4);
        noiseIs(check, c, 0, 1);
        for (int cell = 0; cell < 4; cell++) {
            c.light(1 + cell % 2, 1 + cell / 2, 0);
        }
        noiseIs(check, c, 0, 1);
    }

    private static void noiseOfOneCell(Check check) {
        ColourCharts c = about(4, 4);
        c.grid(4, 4);
        noiseIs(check, c, 0, 1);
        c.pixel(1, 1, 1, 77);
        noiseIs(check, c, 0, 1);
    }

    private static void lessenedNoise(Check check) {
        ColourCharts c = about(4, 4);
        c.pixel(1, 1, 1, 254);
        noiseIs(check, c, 3, 16);
        c.pixel(1, 1, 1, 253);
        noiseIs(check, c, 3, 4);
        c.pixel(1, 1, 1, 251);
        noiseIs(check, c, 3, 1);
        c.pixel(1, 1, 1, 0);
        c.pixel(2, 2, 1, 0);
        noiseIs(check, c, 65025, 4);
    }

    private static void noiseOfGreens(Check check) {
        ColourCharts c = about(4, 4);
        c.pixel(1, 1, 0, 0);
        c.pixel(2, 1, 2, 0);
        noiseIs(check, c, 0, 1);
    }

    private static void noiseOfLit(Check check) {
        ColourCharts c = about(4, 4);
        c.pixel(1, 1, 1, 128);
        c.light(1, 1, 100);
        noiseIs(check, c, 0, 1);
        c.light(2, 2, 0);
        noiseIs(check, c, 195075, 16);
    }

    /** An eighth of 784 cells is 0, the others are 255. */
    private static void noiseOfGreatestPatch(Check check) {
        ColourCharts c = about(28, 28);
        c.grid(1, 1);
        for (int cell = 0; cell < 98; cell++) {
            c.pixel(1 + cell % 28, 1 + cell / 28, 1, 0);
        }
        noiseIs(check, c, 455175, 64);
    }

    private static void noiseOfNoPatch(Check check) {
        ColourCharts c = about(4, 4);
        c.grid(3, 4);
        check.due("noise of patch 11", c.noise(11, 0), 0);
        check.noCell("noise of patch 12", () -> c.noise(12, 0));
        for (int far : FAR) {
            check.noCell("noise of patch " + far, () -> c.noise(far, 0));
        }
    }

    private static void noiseOfNoPart(Check check) {
        ColourCharts c = about(4, 4);
        check.noCell("noise, part 2", () -> c.noise(0, 2));
        for (int far : FAR) {
            check.noCell("noise, part " + far, () -> c.noise(0, far));
        }
        check.due("noise, part 1", c.noise(0, 1), 1);
    }

    private static void noiseOfNone(Check check) {
        ColourCharts c = new ColourCharts(6, 6);
        Scenes.frame(c, 0, 0, 5, 5);
        check.noState("noise before find", () -> c.noise(3, 1));
        c.pixel(0, 0, 0, 41);
        check.due("find", c.find(), false);
        check.noState("noise of none", () -> c.noise(3, 1));
    }
}
