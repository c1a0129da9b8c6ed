/** The boundary cases of promises 20 to 22: day, drift, count. */
public final class DayEdgesTest {
    public static void main(String[] args) {
        Edges edges = new Edges();
        day(edges);
        drift(edges);
        count(edges);
        edges.end("DayEdgesTest", 20, 22);
    }

    private static void day(Edges edges) {
        edges.edge(20, "A day 0 .. 100000", "0 and 100000", DayEdgesTest::outerDays);
        edges.edge(20, "A day 0 .. 100000", "-1, 100001 and beyond", DayEdgesTest::wrongDays);
        edges.edge(20, "what was read then, 0 .. 1000", "0 and 1000", DayEdgesTest::outerValues);
        edges.edge(20, "what was read then, 0 .. 1000", "-1, 1001 and beyond", DayEdgesTest::wrongValues);
        edges.edge(20, "how many there are", "1 to 40", DayEdgesTest::daysCounted);
        edges.edge(20, "how many there are", "one day twice", DayEdgesTest::oneDayTwice);
        edges.edge(20, "IllegalStateException: there are 40", "a 41st", DayEdgesTest::fullDays);
    }

    private static void drift(Edges edges) {
        String flat = "0 / 1 without two different days";
        edges.edge(21, flat, "no day", DayEdgesTest::noDay);
        edges.edge(21, flat, "one day", DayEdgesTest::oneDay);
        edges.edge(21, flat, "one day, many times", DayEdgesTest::oneDayOften);
        edges.edge(21, flat, "two different days", DayEdgesTest::secondDay);
        edges.edge(21, "below (1, above 0)", "falling", DayEdgesTest::falling);
        edges.edge(21, "of the fraction that cannot be lessened", "lessened", DayEdgesTest::lessened);
        edges.edge(21, "of the fraction that cannot be lessened", "no drift", DayEdgesTest::noDrift);
        edges.edge(21, "the slope of the line with the least sum of squares", "the steepest", DayEdgesTest::steepest);
        edges.edge(21, "the slope of the line with the least sum of squares", "the flattest", DayEdgesTest::flattest);
        edges.edge(21, "over all days", "40 of them, the greatest sums", DayEdgesTest::allDays);
        edges.edge(21, "there is no such cell, part, patch, rule, what", "-1, 2 and beyond", DayEdgesTest::wrongParts);
    }

    private static void count(Edges edges) {
        edges.edge(22, "IndexOutOfBoundsException: none of these", "-1, 6 and beyond", DayEdgesTest::wrongCounts);
        edges.edge(22, "0 the width, 1 the height, 2 targets, 3 rules, 4 days, 5 signs", "empty", DayEdgesTest::emptyCounts);
        edges.edge(22, "0 the width, 1 the height, 2 targets, 3 rules, 4 days, 5 signs", "full", DayEdgesTest::fullCounts);
        edges.edge(22, "0 the width, 1 the height, 2 targets, 3 rules, 4 days, 5 signs", "each its own",
            DayEdgesTest::differentCounts);
        edges.edge(22, "2 targets", "beyond the grid, told twice, dropped", DayEdgesTest::targetsCounted);
    }

    /** Days and values in turn. */
    private static ColourCharts days(int... pairs) {
        ColourCharts c = new ColourCharts(6, 6);
        for (int i = 0; i < pairs.length; i += 2) {
            c.day(pairs[i], pairs[i + 1]);
        }
        return c;
    }

    private static void driftIs(Check check, ColourCharts c, long above, long below) {
        check.due("above", c.drift(0), above);
        check.due("below", c.drift(1), below);
    }

    private static void outerDays(Check check) {
        ColourCharts c = days();
        check.dueText("day 0", Check.told(() -> c.day(0, 5)), "1");
        check.dueText("day 100000", Check.told(() -> c.day(100000, 6)), "2");
        driftIs(check, c, 1, 100000);
    }

    private static void wrongDays(Check check) {
        ColourCharts c = days();
        for (int day : new int[] {-1, 100001, 200000, Integer.MIN_VALUE, Integer.MAX_VALUE}) {
            check.noArgument("day " + day, () -> c.day(day, 5));
        }
        check.due("days", c.count(4), 0);
    }

    private static void outerValues(Check check) {
        ColourCharts c = days();
        check.dueText("value 0", Check.told(() -> c.day(5, 0)), "1");
        check.dueText("value 1000", Check.told(() -> c.day(6, 1000)), "2");
        driftIs(check, c, 1000, 1);
    }

    private static void wrongValues(Check check) {
        ColourCharts c = days();
        for (int v : new int[] {-1, 1001, 100000, Integer.MIN_VALUE, Integer.MAX_VALUE}) {
            check.noArgument("value " + v, () -> c.day(5, v));
        }
        check.due("days", c.count(4), 0);
    }

    private static void daysCounted(Check check) {
        ColourCharts c = days();
        for (int i = 1; i <= 40; i++) {
            check.due("day", c.day(7 * i, i), i);
            check.due("days", c.count(4), i);
        }
    }

    private static void oneDayTwice(Check check) {
        ColourCharts c = days();
        check.due("day 9", c.day(9, 9), 1);
        check.due("day 9 again", c.day(9, 9), 2);
        check.due("day 9 otherwise", c.day(9, 10), 3);
        check.due("days", c.count(4), 3);
    }

    private static void fullDays(Check check) {
        ColourCharts c = days();
        for (int i = 0; i < 40; i++) {
            c.day(i, 2 * i);
        }
        check.noState("a 41st", () -> c.day(100000, 0));
        check.noState("a day there is already", () -> c.day(0, 0));
        check.due("days", c.count(4), 40);
        driftIs(check, c, 2, 1);
    }

    private static void noDay(Check check) {
        driftIs(check, days(), 0, 1);
    }

    private static void oneDay(Check check) {
        driftIs(check, days(0, 0), 0, 1);
        driftIs(check, days(100000, 1000), 0, 1);
    }

    private static void oneDayOften(Check check) {
        driftIs(check, days(7, 0, 7, 1000), 0, 1);
        ColourCharts c = days();
        for (int i = 0; i < 40; i++) {
            c.day(100000, 25 * i);
        }
        driftIs(check, c, 0, 1);
    }

    private static void secondDay(Check check) {
        driftIs(check, days(7, 5, 7, 5, 8, 6), 1, 1);
        driftIs(check, days(7, 5, 7, 7, 8, 6), 0, 1);
        driftIs(check, days(8, 5, 7, 3), 2, 1);
    }

    private static void falling(Check check) {
        driftIs(check, days(7, 6, 8, 5), -1, 1);
        driftIs(check, days(8, 5, 7, 6), -1, 1);
        driftIs(check, days(0, 3, 6, 1), -1, 3);
    }

    private static void lessened(Check check) {
        driftIs(check, days(0, 0, 6, 4), 2, 3);
        driftIs(check, days(0, 0, 6, 4, 12, 8, 18, 12), 2, 3);
        driftIs(check, days(3, 10, 1, 10, 2, 11, 5, 20), 87, 35);
        driftIs(check, days(0, 0, 100000, 1000), 1, 100);
    }

    private static void noDrift(Check check) {
        driftIs(check, days(3, 10, 9, 10), 0, 1);
        driftIs(check, days(3, 10, 1, 10, 2, 11), 0, 1);
        driftIs(check, days(0, 0, 100000, 0), 0, 1);
    }

    private static void steepest(Check check) {
        driftIs(check, days(99999, 0, 100000, 1000), 1000, 1);
        driftIs(check, days(99999, 1000, 100000, 0), -1000, 1);
        driftIs(check, days(0, 0, 1, 1000), 1000, 1);
    }

    private static void flattest(Check check) {
        driftIs(check, days(0, 0, 100000, 1), 1, 100000);
        driftIs(check, days(0, 1000, 100000, 999), -1, 100000);
    }

    private static void allDays(Check check) {
        ColourCharts halves = days();
        ColourCharts nearlyOne = days();
        for (int i = 0; i < 40; i++) {
            halves.day(i % 2 * 100000, i % 2 * 1000);
            nearlyOne.day(i < 39 ? 100000 : 99999, i < 39 ? 1000 : 1);
        }
        driftIs(check, halves, 1, 100);
        driftIs(check, nearlyOne, 999, 1);
        ColourCharts spread = days();
        for (int i = 0; i < 40; i++) {
            spread.day(i < 20 ? i : 100000 - i, i < 20 ? 1000 : 0);
        }
        driftIs(check, spread, -49980500, 4996100827L);
    }

    private static void wrongParts(Check check) {
        ColourCharts c = days(1, 1, 2, 2);
        for (int no : new int[] {-1, 2, 3, Integer.MIN_VALUE, Integer.MAX_VALUE}) {
            check.noCell("drift " + no, () -> c.drift(no));
            check.noCell("drift " + no + " without days", () -> days().drift(no));
        }
    }

    private static void wrongCounts(Check check) {
        ColourCharts c = days();
        for (int no : new int[] {-1, 6, 7, Integer.MIN_VALUE, Integer.MAX_VALUE}) {
            check.noCell("count " + no, () -> c.count(no));
        }
    }

    private static void countsAre(Check check, ColourCharts c, int... due) {
        for (int what = 0; what < 6; what++) {
            check.due("count " + what, c.count(what), due[what]);
        }
    }

    private static void emptyCounts(Check check) {
        countsAre(check, new ColourCharts(0, 0), 6, 6, 0, 0, 0, 0);
    }

    private static void fullCounts(Check check) {
        ColourCharts c = new ColourCharts(99, 99);
        for (int patch = 0; patch < 16; patch++) {
            c.target(patch, 0, 0, 0);
        }
        for (int i = 0; i < 8; i++) {
            Scenes.rule(c, "d<1");
        }
        for (int i = 0; i < 40; i++) {
            c.day(i, i);
        }
        Scenes.text(c, "12345678901234567890");
        countsAre(check, c, 30, 30, 16, 8, 40, 20);
    }

    private static void differentCounts(Check check) {
        ColourCharts c = new ColourCharts(11, 12);
        c.target(4, 1, 1, 1);
        Scenes.rule(c, "d<1");
        Scenes.rule(c, "d<1");
        c.day(1, 1);
        c.day(2, 2);
        c.day(3, 3);
        Scenes.text(c, "abcd");
        countsAre(check, c, 11, 12, 1, 2, 3, 4);
    }

    private static void targetsCounted(Check check) {
        ColourCharts c = new ColourCharts(6, 6);
        c.grid(1, 1);
        c.target(15, 1, 1, 1);
        check.due("beyond the grid", c.count(2), 1);
        c.target(15, 2, 2, 2);
        check.due("told twice", c.count(2), 1);
        c.target(0, 2, 2, 2);
        check.due("two", c.count(2), 2);
        c.target(15, -1, 2, 2);
        check.due("one dropped", c.count(2), 1);
    }
}
