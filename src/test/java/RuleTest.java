/** Promises 17 to 19: unit, rule, reject. */
public final class RuleTest {
    private static final Check CHECK = new Check();

    public static void main(String[] args) {
        units();
        texts();
        eightRules();
        rejectByDifference();
        rejectByNoise();
        rejectByMissing();
        firstOfSeveral();
        wrongRejects();
        CHECK.end("RuleTest");
    }

    private static void units() {
        ColourCharts c = new ColourCharts(6, 6);
        for (int wrong : new int[] {32, 127, -1, 0, 256 + 'd', 65536 + 'd', Integer.MIN_VALUE, Integer.MAX_VALUE}) {
            CHECK.noArgument("unit " + wrong, () -> c.unit(wrong));
        }
        CHECK.due("no signs", c.count(5), 0);
        CHECK.due("unit 33", c.unit(33), 1);
        CHECK.due("unit 126", c.unit(126), 2);
        for (int i = 3; i <= 20; i++) {
            CHECK.due("unit", c.unit(50), i);
            CHECK.due("signs", c.count(5), i);
        }
        CHECK.noState("unit 21", () -> c.unit(50));
        CHECK.noArgument("unit 21, wrong too", () -> c.unit(32));
        CHECK.due("signs after refusals", c.count(5), 20);
        CHECK.due("20 signs are no rule", c.rule(), ColourCharts.NONE);
        CHECK.due("signs are gone", c.count(5), 0);
        CHECK.due("unit again", c.unit('d'), 1);
    }

    private static void texts() {
        String[] none = {"", "d", "d<", "<5", "5", "x<5", "D<5", "d=5", "d<=5", "d5", "d<-5", "d<5a", "d<1234567",
            "dd<5", "n>>5", "m<5/", "m<5:", "/<5", "d<a", "d;5", "d?5", "<d5", "d<1.5", "d<12345678901234567"};
        for (String text : none) {
            ColourCharts c = new ColourCharts(6, 6);
            CHECK.due("rule of " + text, Scenes.rule(c, text), ColourCharts.NONE);
            CHECK.due("it is no rule", c.count(3), 0);
            CHECK.due("its text is gone", c.count(5), 0);
        }
        String[] rules = {"d<0", "n>9", "m<1", "d>000000", "n<123456", "m>999999", "d<007"};
        ColourCharts c = new ColourCharts(6, 6);
        for (int i = 0; i < rules.length; i++) {
            CHECK.due("no rule between them", Scenes.rule(c, "d"), ColourCharts.NONE);
            CHECK.due("rule of " + rules[i], Scenes.rule(c, rules[i]), i);
            CHECK.due("rules", c.count(3), i + 1);
            CHECK.due("its text is gone", c.count(5), 0);
        }
    }

    private static void eightRules() {
        ColourCharts c = new ColourCharts(6, 6);
        for (int i = 0; i < 8; i++) {
            CHECK.due("rule", Scenes.rule(c, "m>9"), i);
        }
        CHECK.noState("a ninth of no text", c::rule);
        Scenes.text(c, "m>9");
        CHECK.noState("a ninth", c::rule);
        CHECK.due("rules after refusals", c.count(3), 8);
        CHECK.due("signs after refusals", c.count(5), 3);
    }

    /** Patches 0 and 1 lie on y = x; all patches are one cell, so without noise. */
    private static ColourCharts fitted() {
        ColourCharts c = Scenes.sixteenCells();
        Scenes.patch(c, 0, 50, 50, 50);
        Scenes.patch(c, 1, 90, 90, 90);
        c.target(0, 50, 50, 50);
        c.target(1, 90, 90, 90);
        CHECK.due("fit", c.fit(), 2);
        return c;
    }

    private static void rejects(ColourCharts c, String text, boolean rejects) {
        int rule = Scenes.rule(c, text);
        CHECK.due("reject by " + text, c.reject(), rejects ? rule : ColourCharts.NONE);
    }

    private static void rejectByDifference() {
        ColourCharts c = fitted();
        CHECK.due("without rules", c.reject(), ColourCharts.NONE);
        c.target(0, 50, 53, 50);
        c.target(1, 90, 90, 91);
        rejects(c, "d<36", false);
        rejects(c, "d>36", false);
        rejects(c, "d>000035", true);
        c = fitted();
        c.target(1, 90, 92, 90);
        rejects(c, "d<16", false);
        rejects(c, "d<17", true);
        c = fitted();
        rejects(c, "d>0", false);
        c.target(7, 254, 255, 255);
        CHECK.due("another target", c.reject(), 0);
        c.grid(4, 1);
        paintColumns(c);
        CHECK.due("not in the grid", c.reject(), ColourCharts.NONE);
        c = fitted();
        c.target(0, -1, 0, 0);
        c.target(1, -1, 0, 0);
        rejects(c, "d<0", false);
        rejects(c, "d>0", false);
        rejects(c, "d<1", true);
    }

    /** The columns of patches 0 and 1 as these patches are, so that lesser grids read them the same. */
    private static void paintColumns(ColourCharts c) {
        for (int row = 1; row < 4; row++) {
            Scenes.patch(c, row * 4, 50, 50, 50);
            Scenes.patch(c, row * 4 + 1, 90, 90, 90);
        }
    }

    /** Patch 7, without a target, of the greens 255 and the given one. */
    private static ColourCharts noisyPatch(int green) {
        ColourCharts c = fitted();
        c.grid(4, 2);
        paintColumns(c);
        c.pixel(4, 4, 1, green);
        return c;
    }

    private static void rejectByNoise() {
        ColourCharts c = fitted();
        rejects(c, "n>0", false);
        rejects(c, "n<0", false);
        rejects(c, "n<1", true);
        c = noisyPatch(251);
        CHECK.due("noise 4", c.noise(7, 0), 4);
        rejects(c, "n>4", false);
        rejects(c, "n<4", false);
        rejects(c, "n>3", true);
        c = noisyPatch(250);
        CHECK.due("noise 25 / 4", c.noise(7, 0), 25);
        rejects(c, "n>6", false);
        rejects(c, "n<6", false);
        rejects(c, "n<7", true);
        c.pixel(3, 4, 1, 0);
        CHECK.due("another patch has the greatest", c.reject(), 0);
        c = noisyPatch(250);
        c.pixel(3, 4, 1, 254);
        rejects(c, "n>5", true);
        c = noisyPatch(255);
        rejects(c, "n>0", false);
        c.pixel(1, 1, 1, 56);
        CHECK.due("patch 0 has the greatest", c.reject(), 0);
    }

    private static void rejectByMissing() {
        ColourCharts c = fitted();
        rejects(c, "m<14", false);
        rejects(c, "m>14", false);
        rejects(c, "m>13", true);
        c = fitted();
        c.grid(1, 4);
        rejects(c, "m<2", false);
        rejects(c, "m>2", false);
        rejects(c, "m<3", true);
        c.target(4, 1, 1, 1);
        c.target(15, 1, 1, 1);
        CHECK.due("targets beyond the grid", c.reject(), 2);
    }

    private static void firstOfSeveral() {
        ColourCharts c = fitted();
        Scenes.rule(c, "d>500");
        Scenes.rule(c, "m<15");
        Scenes.rule(c, "m>0");
        CHECK.due("the first", c.reject(), 1);
        c.target(0, 255, 255, 255);
        CHECK.due("another first", c.reject(), 0);
        CHECK.due("rules stay", c.count(3), 3);
    }

    private static void wrongRejects() {
        ColourCharts c = new ColourCharts(6, 6);
        Scenes.rule(c, "m>0");
        CHECK.noState("none found", c::reject);
        Scenes.frame(c, 0, 0, 5, 5);
        c.find();
        CHECK.noState("nothing fitted", c::reject);
        c.target(0, 1, 1, 1);
        c.fit();
        CHECK.noState("nothing fitted of one", c::reject);
        c.target(1, 1, 1, 1);
        c.fit();
        CHECK.due("fitted", c.reject(), 0);
        Scenes.grey(c, 0, 0, 255);
        c.find();
        CHECK.noState("none found any more", c::reject);
    }
}
