/** Promises 5 and 6: find, box. */
public final class FrameTest {
    private static final Check CHECK = new Check();

    public static void main(String[] args) {
        boxes();
        leastSides();
        darkness();
        brokenBorder();
        staysAndGoes();
        wrongSides();
        CHECK.end("FrameTest");
    }

    private static void box(ColourCharts c, int left, int top, int right, int bottom) {
        CHECK.due("find", c.find(), true);
        CHECK.due("left", c.box(0), left);
        CHECK.due("top", c.box(1), top);
        CHECK.due("right", c.box(2), right);
        CHECK.due("bottom", c.box(3), bottom);
    }

    private static void boxes() {
        ColourCharts c = new ColourCharts(20, 15);
        CHECK.due("find without dark cells", c.find(), false);
        Scenes.frame(c, 2, 3, 9, 12);
        box(c, 2, 3, 9, 12);
        Scenes.grey(c, 5, 5, 0);
        box(c, 2, 3, 9, 12);
        Scenes.frame(c, 0, 0, 19, 14);
        box(c, 0, 0, 19, 14);
    }

    private static void leastSides() {
        for (int wide = 1; wide <= 8; wide++) {
            for (int high = 1; high <= 8; high++) {
                ColourCharts c = new ColourCharts(10, 10);
                Scenes.frame(c, 1, 2, wide, 1 + high);
                CHECK.due("find " + wide + " by " + high, c.find(), wide >= 6 && high >= 6);
            }
        }
    }

    private static void darkness() {
        ColourCharts c = new ColourCharts(6, 6);
        Scenes.frame(c, 0, 0, 5, 5);
        for (int part = 0; part < 3; part++) {
            c.pixel(3, 5, part, 40);
            CHECK.due("40 is dark", c.find(), true);
            c.pixel(3, 5, part, 41);
            CHECK.due("41 is not", c.find(), false);
            c.pixel(3, 5, part, 0);
        }
        c.pixel(3, 5, 0, 40);
        c.light(3, 5, 1);
        CHECK.due("40 is lit to 255, but not lit it is dark", c.find(), true);
        c.pixel(3, 5, 0, 200);
        c.light(3, 5, 0);
        CHECK.due("200 is lit to 0, but not lit it is not dark", c.find(), false);
    }

    private static void brokenBorder() {
        int found = 0;
        for (int y = 0; y < 12; y++) {
            for (int x = 0; x < 12; x++) {
                ColourCharts c = new ColourCharts(12, 12);
                Scenes.frame(c, 2, 2, 8, 9);
                boolean within = x >= 2 && x <= 8 && y >= 2 && y <= 9;
                boolean border = within && (x == 2 || x == 8 || y == 2 || y == 9);
                Scenes.grey(c, x, y, border ? 255 : 0);
                CHECK.due("find with " + x + ", " + y + " changed", c.find(), within && !border);
                Scenes.grey(c, x, y, border ? 0 : 255);
                found += c.find() ? 1 : 0;
            }
        }
        CHECK.due("found whenever it is whole", found, 144);
    }

    private static void staysAndGoes() {
        ColourCharts c = new ColourCharts(10, 10);
        CHECK.noState("box before find", () -> c.box(0));
        Scenes.frame(c, 1, 2, 7, 8);
        CHECK.noState("box of what is not looked for", () -> c.box(3));
        box(c, 1, 2, 7, 8);
        Scenes.grey(c, 1, 2, 255);
        CHECK.due("it stays as it was found", c.box(0), 1);
        CHECK.due("it can be read still", c.read(0, 0), 255);
        CHECK.due("find, broken", c.find(), false);
        CHECK.noState("there is none any more", () -> c.box(0));
        CHECK.noState("none to be read", () -> c.read(0, 0));
        Scenes.grey(c, 1, 2, 0);
        box(c, 1, 2, 7, 8);
    }

    private static void wrongSides() {
        ColourCharts c = new ColourCharts(6, 6);
        int[] none = {-1, 4, Integer.MIN_VALUE, Integer.MAX_VALUE};
        for (int what : none) {
            CHECK.noCell("box " + what + " before find", () -> c.box(what));
        }
        Scenes.frame(c, 0, 0, 5, 5);
        CHECK.due("find", c.find(), true);
        for (int what : none) {
            CHECK.noCell("box " + what, () -> c.box(what));
        }
    }
}
