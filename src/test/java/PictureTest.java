/** Promises 1 to 4: a new object, pixel, light, lit. */
public final class PictureTest {
    private static final Check CHECK = new Check();

    public static void main(String[] args) {
        sizes();
        newObject();
        pixel();
        light();
        lit();
        CHECK.end("PictureTest");
    }

    private static void sizes() {
        int[] given = {Integer.MIN_VALUE, -1, 0, 5, 6, 7, 29, 30, 31, Integer.MAX_VALUE};
        int[] kept = {6, 6, 6, 6, 6, 7, 29, 30, 30, 30};
        for (int i = 0; i < given.length; i++) {
            ColourCharts wide = new ColourCharts(given[i], 9);
            CHECK.due("width of " + given[i], wide.count(0), kept[i]);
            CHECK.due("height beside it", wide.count(1), 9);
            ColourCharts high = new ColourCharts(9, given[i]);
            CHECK.due("width beside it", high.count(0), 9);
            CHECK.due("height of " + given[i], high.count(1), kept[i]);
            CHECK.due("the last cell", high.lit(8, kept[i] - 1, 2), 255);
            CHECK.noCell("the cell below it", () -> high.lit(8, high.count(1), 2));
        }
    }

    private static void newObject() {
        ColourCharts c = new ColourCharts(7, 8);
        for (int y = 0; y < 8; y++) {
            for (int x = 0; x < 7; x++) {
                for (int part = 0; part < 3; part++) {
                    CHECK.due("a new cell, lit", c.lit(x, y, part), 255);
                    CHECK.due("a new cell", c.pixel(x, y, part, 1), 255);
                }
                CHECK.due("a new light", c.light(x, y, 1), 200);
            }
        }
        for (int what = 2; what <= 5; what++) {
            CHECK.due("new, count " + what, c.count(what), 0);
        }
        CHECK.due("new, neutral", c.neutral(ColourCharts.NONE), ColourCharts.NONE);
        CHECK.due("new, turn", c.turn(0), 0);
        CHECK.due("new, drift above", c.drift(0), 0);
        CHECK.due("new, drift below", c.drift(1), 1);
        CHECK.noState("new, box", () -> c.box(0));
        CHECK.noState("new, line", () -> c.line(0, 0));
        CHECK.noState("new, read", () -> c.read(3, 0));
        CHECK.noCell("new, read beyond 2 times 2", () -> c.read(4, 0));
    }

    private static void pixel() {
        ColourCharts c = new ColourCharts(7, 9);
        CHECK.due("pixel", c.pixel(6, 8, 2, 0), 255);
        CHECK.due("pixel again", c.pixel(6, 8, 2, 255), 0);
        CHECK.due("pixel of another part", c.pixel(6, 8, 1, 17), 255);
        CHECK.due("pixel of another cell", c.pixel(5, 8, 1, 18), 255);
        CHECK.due("pixel kept", c.pixel(6, 8, 1, 19), 17);
        int[][] none = {{-1, 0, 0}, {7, 0, 0}, {0, -1, 0}, {0, 9, 0}, {0, 0, -1}, {0, 0, 3},
            {Integer.MIN_VALUE, 0, 0}, {0, Integer.MAX_VALUE, 0}, {0, 0, Integer.MIN_VALUE}};
        for (int[] n : none) {
            CHECK.noCell("pixel nowhere", () -> c.pixel(n[0], n[1], n[2], 5));
            CHECK.noCell("pixel nowhere, a wrong value too", () -> c.pixel(n[0], n[1], n[2], 256));
        }
        CHECK.noArgument("pixel -1", () -> c.pixel(6, 8, 1, -1));
        CHECK.noArgument("pixel 256", () -> c.pixel(6, 8, 1, 256));
        CHECK.due("pixel after refusals", c.pixel(6, 8, 1, 0), 19);
        CHECK.due("the cell that a wrong x would wrap to", c.pixel(0, 1, 0, 0), 255);
    }

    private static void light() {
        ColourCharts c = new ColourCharts(9, 7);
        CHECK.due("light", c.light(8, 6, 0), 200);
        CHECK.due("light again", c.light(8, 6, 255), 0);
        CHECK.due("light of another cell", c.light(7, 6, 3), 200);
        int[][] none = {{-1, 0}, {9, 0}, {0, -1}, {0, 7}, {Integer.MAX_VALUE, 0}, {0, Integer.MIN_VALUE}};
        for (int[] n : none) {
            CHECK.noCell("light nowhere", () -> c.light(n[0], n[1], 5));
            CHECK.noCell("light nowhere, a wrong value too", () -> c.light(n[0], n[1], -1));
            CHECK.noCell("lit nowhere", () -> c.lit(n[0], n[1], 0));
        }
        CHECK.noArgument("light -1", () -> c.light(8, 6, -1));
        CHECK.noArgument("light 256", () -> c.light(8, 6, 256));
        CHECK.due("light after refusals", c.light(8, 6, 1), 255);
    }

    private static void lit() {
        for (int light = 0; light <= 255; light++) {
            litBy(light, 0, 127);
            litBy(light, 128, 255);
        }
        ColourCharts c = new ColourCharts(6, 6);
        CHECK.noCell("lit part -1", () -> c.lit(0, 0, -1));
        CHECK.noCell("lit part 3", () -> c.lit(0, 0, 3));
        c.light(1, 2, 240);
        c.pixel(1, 2, 0, 3);
        CHECK.due("2.5 goes up", c.lit(1, 2, 0), 3);
        c.light(1, 2, 0);
        CHECK.due("no light", c.lit(1, 2, 0), 0);
    }

    private static void litBy(int light, int first, int last) {
        ColourCharts c = new ColourCharts(6, 6);
        c.light(1, 2, light);
        for (int v = first; v <= last; v++) {
            c.pixel(1, 2, v % 3, v);
            CHECK.due("lit " + v + " by " + light, c.lit(1, 2, v % 3), dueLit(v, light));
        }
    }

    /** The greatest w whose distance to the quotient is least, found by trying all. */
    private static int dueLit(int v, int light) {
        if (light == 0) {
            return 0;
        }
        int best = 0;
        for (int w = 1; w <= 255; w++) {
            if (Math.abs(w * light - v * 200) <= Math.abs(best * light - v * 200)) {
                best = w;
            }
        }
        return best;
    }
}
