/** Promises 7 to 10: grid, turn, read, noise. */
public final class PatchTest {
    private static final Check CHECK = new Check();

    public static void main(String[] args) {
        wrongGrids();
        sharesOfCells();
        quarters();
        wrongQuarters();
        means();
        wrongReads();
        noise();
        CHECK.end("PatchTest");
    }

    private static void wrongGrids() {
        ColourCharts c = new ColourCharts(9, 9);
        Scenes.frame(c, 0, 0, 8, 8);
        c.find();
        c.grid(3, 1);
        int[] wrong = {0, 5, -1, Integer.MIN_VALUE, Integer.MAX_VALUE};
        for (int w : wrong) {
            CHECK.noArgument("grid columns " + w, () -> Scenes.grid(c, w, 2));
            CHECK.noArgument("grid rows " + w, () -> Scenes.grid(c, 2, w));
        }
        CHECK.due("the grid after refusals has patch 2", c.read(2, 0), 255);
        CHECK.noCell("and no patch 3", () -> c.read(3, 0));
        for (int columns = 1; columns <= 4; columns++) {
            for (int rows = 1; rows <= 4; rows++) {
                c.grid(columns, rows);
                int patches = columns * rows;
                CHECK.due("the last patch", c.read(patches - 1, 2), 255);
                CHECK.noCell("one more", () -> c.read(patches, 2));
            }
        }
    }

    /** A lone cell of 0 among 255 shows by the mean which patch it is in. */
    private static void sharesOfCells() {
        for (int wide = 4; wide <= 9; wide++) {
            ColourCharts c = new ColourCharts(wide + 2, 6);
            Scenes.frame(c, 0, 0, wide + 1, 5);
            c.find();
            for (int columns = 1; columns <= 4; columns++) {
                c.grid(columns, 1);
                for (int i = 0; i < wide; i++) {
                    c.pixel(i + 1, 3, 0, 0);
                    for (int patch = 0; patch < columns; patch++) {
                        boolean here = i * columns / wide == patch;
                        CHECK.due("cell " + i + " of " + wide + " in patch " + patch + " of " + columns,
                            c.read(patch, 0) != 255, here);
                    }
                    c.pixel(i + 1, 3, 0, 255);
                }
            }
        }
        ColourCharts c = new ColourCharts(6, 9);
        Scenes.frame(c, 0, 0, 5, 8);
        c.find();
        c.grid(1, 3);
        int[] rowOf = {0, 0, 0, 1, 1, 2, 2};
        for (int i = 0; i < 7; i++) {
            c.pixel(2, i + 1, 1, 0);
            for (int patch = 0; patch < 3; patch++) {
                CHECK.due("row cell " + i + " in patch " + patch, c.read(patch, 1) != 255, rowOf[i] == patch);
            }
            c.pixel(2, i + 1, 1, 255);
        }
    }

    private static void quarters() {
        ColourCharts c = new ColourCharts(10, 10);
        Scenes.frame(c, 1, 1, 8, 6);
        c.find();
        c.grid(3, 2);
        for (int y = 2; y <= 5; y++) {
            for (int x = 2; x <= 7; x++) {
                Scenes.grey(c, x, y, 100 + (x - 2) / 2 + (y - 2) / 2 * 10);
            }
        }
        int[][] order = {
            {100, 101, 102, 110, 111, 112},
            {102, 112, 101, 111, 100, 110},
            {112, 111, 110, 102, 101, 100},
            {110, 100, 111, 101, 112, 102}};
        int former = 0;
        for (int quarter = 0; quarter < 4; quarter++) {
            CHECK.due("turn", c.turn(quarter), former);
            former = quarter;
            for (int patch = 0; patch < 6; patch++) {
                CHECK.due("quarter " + quarter + " patch " + patch, c.read(patch, patch % 3), order[quarter][patch]);
                CHECK.due("its noise", c.noise(patch, 0), 0);
            }
        }
        CHECK.due("turn to the same", c.turn(3), 3);
    }

    private static void wrongQuarters() {
        ColourCharts c = new ColourCharts(6, 6);
        c.turn(2);
        for (int wrong : new int[] {-1, 4, Integer.MIN_VALUE, Integer.MAX_VALUE}) {
            CHECK.noArgument("turn " + wrong, () -> c.turn(wrong));
        }
        CHECK.due("turn after refusals", c.turn(0), 2);
    }

    private static void means() {
        ColourCharts c = new ColourCharts(6, 6);
        Scenes.frame(c, 0, 0, 5, 5);
        c.find();
        Scenes.paint(c, 1, 1, 10, 10, 10);
        Scenes.paint(c, 2, 1, 10, 10, 10);
        Scenes.paint(c, 1, 2, 10, 10, 11);
        Scenes.paint(c, 2, 2, 11, 12, 12);
        CHECK.due("10.25", c.read(0, 0), 10);
        CHECK.due("10.5 goes up", c.read(0, 1), 11);
        CHECK.due("10.75", c.read(0, 2), 11);
        c.light(2, 2, 100);
        CHECK.due("the mean is of lit parts: 13", c.read(0, 0), 13);
        c.light(2, 2, 0);
        CHECK.due("without light: 7.5", c.read(0, 1), 8);
        CHECK.due("the frame is no part of a patch", c.read(3, 0), 255);
    }

    private static void wrongReads() {
        ColourCharts c = new ColourCharts(6, 6);
        int[] nowhere = {-1, 4, Integer.MIN_VALUE, Integer.MAX_VALUE};
        for (boolean found : new boolean[] {false, true}) {
            if (found) {
                Scenes.frame(c, 0, 0, 5, 5);
                CHECK.due("find", c.find(), true);
            } else {
                CHECK.noState("read, none found", () -> c.read(0, 0));
                CHECK.noState("noise, none found", () -> c.noise(0, 0));
            }
            for (int no : nowhere) {
                CHECK.noCell("read patch " + no, () -> c.read(no, 0));
                CHECK.noCell("read part " + no, () -> c.read(0, no));
                CHECK.noCell("noise patch " + no, () -> c.noise(no, 0));
                CHECK.noCell("noise part " + no, () -> c.noise(0, no));
            }
            CHECK.noCell("read part 3", () -> c.read(0, 3));
            CHECK.noCell("noise part 2", () -> c.noise(0, 2));
        }
    }

    private static void noise(ColourCharts c, int patch, long above, long below) {
        CHECK.due("noise above", c.noise(patch, 0), above);
        CHECK.due("noise below", c.noise(patch, 1), below);
    }

    private static void noise() {
        ColourCharts c = new ColourCharts(6, 6);
        Scenes.frame(c, 0, 0, 5, 5);
        c.find();
        noise(c, 0, 0, 1);
        c.pixel(1, 1, 0, 0);
        c.pixel(1, 2, 2, 0);
        noise(c, 0, 0, 1);
        c.pixel(1, 1, 1, 254);
        noise(c, 0, 3, 16);
        c.pixel(2, 1, 1, 254);
        noise(c, 0, 1, 4);
        c.pixel(1, 1, 1, 0);
        c.pixel(2, 1, 1, 0);
        noise(c, 0, 65025, 4);
        c.pixel(1, 1, 1, 200);
        c.pixel(2, 1, 1, 200);
        c.light(1, 1, 100);
        c.light(2, 1, 150);
        noise(c, 0, 0, 1);
        c.light(1, 1, 0);
        noise(c, 0, 195075, 16);
        noise(c, 1, 0, 1);
    }
}
