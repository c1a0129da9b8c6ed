/** Promises 20 to 22: day, drift, count. */
public final class DayTest {
    private static final Check CHECK = new Check();

    public static void main(String[] args) {
        wrongDays();
        fortyDays();
        drifts();
        widestDrift();
        counts();
        CHECK.end("DayTest");
    }

    private static void drift(ColourCharts c, long above, long below) {
        CHECK.due("drift above", c.drift(0), above);
        CHECK.due("drift below", c.drift(1), below);
    }

    private static void wrongDays() {
        ColourCharts c = new ColourCharts(6, 6);
        int[][] wrong = {{-1, 0}, {100001, 0}, {0, -1}, {0, 1001}, {Integer.MIN_VALUE, 0}, {0, Integer.MAX_VALUE}};
        for (int[] w : wrong) {
            CHECK.noArgument("day " + w[0] + ", " + w[1], () -> c.day(w[0], w[1]));
        }
        CHECK.due("days after refusals", c.count(4), 0);
        CHECK.due("the first day", c.day(0, 0), 1);
        CHECK.due("the last day", c.day(100000, 1000), 2);
        for (int no : new int[] {-1, 2, Integer.MIN_VALUE, Integer.MAX_VALUE}) {
            CHECK.noCell("drift " + no, () -> c.drift(no));
        }
        drift(c, 1, 100);
    }

    private static void fortyDays() {
        ColourCharts c = new ColourCharts(6, 6);
        for (int i = 1; i <= 40; i++) {
            CHECK.due("day", c.day(i, 2 * i), i);
            CHECK.due("days", c.count(4), i);
        }
        CHECK.noState("a day more", () -> c.day(50, 0));
        CHECK.noArgument("a day more, wrong too", () -> c.day(-1, 0));
        CHECK.due("days after refusals", c.count(4), 40);
        drift(c, 2, 1);
    }

    private static void drifts() {
        ColourCharts c = new ColourCharts(6, 6);
        drift(c, 0, 1);
        c.day(7, 5);
        drift(c, 0, 1);
        c.day(7, 900);
        drift(c, 0, 1);
        c.day(8, 452);
        drift(c, -1, 2);
        c = new ColourCharts(6, 6);
        c.day(3, 10);
        c.day(1, 10);
        drift(c, 0, 1);
        c.day(2, 11);
        drift(c, 0, 1);
        c.day(5, 20);
        drift(c, 87, 35);
        c.day(5, 20);
        drift(c, 87, 32);
    }

    /** The sums' products come near to their greatest here. */
    private static void widestDrift() {
        ColourCharts c = new ColourCharts(6, 6);
        for (int i = 0; i < 20; i++) {
            c.day(0, 1000);
            c.day(100000, 0);
        }
        drift(c, -1, 100);
        c = new ColourCharts(6, 6);
        for (int i = 0; i < 39; i++) {
            c.day(100000, 1000);
        }
        drift(c, 0, 1);
        c.day(99999, 1);
        drift(c, 999, 1);
    }

    private static void counts() {
        ColourCharts c = new ColourCharts(11, 12);
        c.target(4, 1, 1, 1);
        c.day(1, 1);
        c.day(1, 1);
        Scenes.rule(c, "d<1");
        Scenes.rule(c, "d<1");
        Scenes.rule(c, "d<1");
        Scenes.text(c, "abcd");
        int[] due = {11, 12, 1, 3, 2, 4};
        for (int what = 0; what < 6; what++) {
            CHECK.due("count " + what, c.count(what), due[what]);
        }
        for (int no : new int[] {-1, 6, Integer.MIN_VALUE, Integer.MAX_VALUE}) {
            CHECK.noCell("count " + no, () -> c.count(no));
        }
        CHECK.due("NONE", ColourCharts.NONE, -1);
    }
}
