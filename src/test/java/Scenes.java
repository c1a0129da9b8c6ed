/** Pictures that several tests start from. */
final class Scenes {
    private Scenes() {
    }

    static void paint(ColourCharts c, int x, int y, int red, int green, int blue) {
        c.pixel(x, y, 0, red);
        c.pixel(x, y, 1, green);
        c.pixel(x, y, 2, blue);
    }

    static void grey(ColourCharts c, int x, int y, int v) {
        paint(c, x, y, v, v, v);
    }

    static void frame(ColourCharts c, int left, int top, int right, int bottom) {
        for (int x = left; x <= right; x++) {
            grey(c, x, top, 0);
            grey(c, x, bottom, 0);
        }
        for (int y = top; y <= bottom; y++) {
            grey(c, left, y, 0);
            grey(c, right, y, 0);
        }
    }

    /** A frame from (0, 0) to (5, 5) about 4 times 4 cells, found, with a grid whose patches are one cell each. */
    static ColourCharts sixteenCells() {
        ColourCharts c = new ColourCharts(6, 6);
        frame(c, 0, 0, 5, 5);
        c.find();
        c.grid(4, 4);
        return c;
    }

    /** Paints the cell that is the patch, of sixteenCells in quarter 0. */
    static void patch(ColourCharts c, int patch, int red, int green, int blue) {
        paint(c, 1 + patch % 4, 1 + patch / 4, red, green, blue);
    }

    /** As a call with an answer, so that a check can take it. */
    static long grid(ColourCharts c, int columns, int rows) {
        c.grid(columns, rows);
        return 0;
    }

    /** As a call with an answer, so that a check can take it. */
    static long target(ColourCharts c, int patch, int red, int green, int blue) {
        c.target(patch, red, green, blue);
        return 0;
    }

    static void text(ColourCharts c, String text) {
        for (int i = 0; i < text.length(); i++) {
            c.unit(text.charAt(i));
        }
    }

    static int rule(ColourCharts c, String text) {
        text(c, text);
        return c.rule();
    }
}
