/** The boundary cases of promises 17 to 19: unit, rule, reject. */
public final class RuleEdgesTest {
    private static final int NONE = ColourCharts.NONE;

    public static void main(String[] args) {
        Edges edges = new Edges();
        unit(edges);
        rule(edges);
        measures(edges);
        reject(edges);
        edges.end("RuleEdgesTest", 17, 19);
    }

    private static void unit(Edges edges) {
        edges.edge(17, "A sign 33 .. 126", "33 and 126", RuleEdgesTest::outerSigns);
        edges.edge(17, "IllegalArgumentException: it is none", "32, 127 and beyond", RuleEdgesTest::noSigns);
        edges.edge(17, "behind the others: how many there are", "1 to 20", RuleEdgesTest::signsCounted);
        edges.edge(17, "behind the others: how many there are", "in their order", RuleEdgesTest::signsInOrder);
        edges.edge(17, "IllegalStateException: there are 20", "a 21st", RuleEdgesTest::fullText);
        edges.edge(17, "IllegalStateException: there are 20", "room again", RuleEdgesTest::roomAgain);
    }

    private static void rule(Edges edges) {
        edges.edge(18, "The text becomes a rule, and is empty: its number", "0 to 7", RuleEdgesTest::eightNumbers);
        edges.edge(18, "NONE, if it is none (it is empty then, too)", "an empty text", RuleEdgesTest::emptyText);
        edges.edge(18, "NONE, if it is none (it is empty then, too)", "20 signs", RuleEdgesTest::longText);
        edges.edge(18, "NONE, if it is none (it is empty then, too)", "no number is used up", RuleEdgesTest::noNumberLost);
        edges.edge(18, "A rule is \"d\"", "other signs first", RuleEdgesTest::wrongKinds);
        edges.edge(18, "then \"<\" or \">\"", "other signs second", RuleEdgesTest::wrongComparisons);
        edges.edge(18, "then a number of one to six digits", "no digit", RuleEdgesTest::noDigit);
        edges.edge(18, "then a number of one to six digits", "one digit", RuleEdgesTest::oneDigit);
        edges.edge(18, "then a number of one to six digits", "six digits", RuleEdgesTest::sixDigits);
        edges.edge(18, "then a number of one to six digits", "seven digits", RuleEdgesTest::sevenDigits);
        edges.edge(18, "then a number of one to six digits", "other signs", RuleEdgesTest::wrongDigits);
        edges.edge(18, "IllegalStateException: there are eight", "a ninth", RuleEdgesTest::ninthRule);
        edges.edge(18, "IllegalStateException: there are eight", "a ninth that is none", RuleEdgesTest::ninthOfNone);
    }

    private static void measures(Edges edges) {
        edges.edge(18, "the greatest difference of all patches with targets in the grid", "just at it",
            RuleEdgesTest::differenceAtLimit);
        edges.edge(18, "the greatest difference of all patches with targets in the grid", "0", RuleEdgesTest::noDifference);
        edges.edge(18, "the greatest difference of all patches with targets in the grid", "the greatest there is",
            RuleEdgesTest::utmostDifference);
        edges.edge(18, "the greatest difference of all patches with targets in the grid", "of the first and the last",
            RuleEdgesTest::outerDifferences);
        edges.edge(18, "the greatest difference of all patches with targets in the grid", "beyond it",
            RuleEdgesTest::differenceBeyond);
        edges.edge(18, "the greatest noise, rounded down", "just at it", RuleEdgesTest::noiseAtLimit);
        edges.edge(18, "the greatest noise, rounded down", "with a rest", RuleEdgesTest::noiseRoundedDown);
        edges.edge(18, "the greatest noise, rounded down", "of the first and the last patch", RuleEdgesTest::outerNoise);
        edges.edge(18, "the greatest noise, rounded down", "the greatest there is", RuleEdgesTest::utmostNoise);
        edges.edge(18, "how many patches of the grid have no target", "none and all", RuleEdgesTest::missingExtremes);
        edges.edge(18, "how many patches of the grid have no target", "just at it", RuleEdgesTest::missingAtLimit);
        edges.edge(18, "then a number of one to six digits: such a chart is rejected", "zeros before it",
            RuleEdgesTest::leadingZeros);
    }

    private static void reject(Edges edges) {
        edges.edge(19, "The first rule that rejects; NONE", "no rules", RuleEdgesTest::noRules);
        edges.edge(19, "The first rule that rejects; NONE", "none rejects", RuleEdgesTest::noneRejects);
        edges.edge(19, "The first rule that rejects; NONE", "all reject", RuleEdgesTest::allReject);
        edges.edge(19, "The first rule that rejects; NONE", "the last alone", RuleEdgesTest::lastRejects);
        edges.edge(19, "none is found, or nothing was fitted", "none found", RuleEdgesTest::rejectNotFound);
        edges.edge(19, "none is found, or nothing was fitted", "nothing fitted", RuleEdgesTest::rejectNotFitted);
    }

    private static ColourCharts empty() {
        return new ColourCharts(6, 6);
    }

    private static void outerSigns(Check check) {
        ColourCharts c = empty();
        check.dueText("unit 33", Check.told(() -> c.unit(33)), "1");
        check.dueText("unit 126", Check.told(() -> c.unit(126)), "2");
    }

    private static void noSigns(Check check) {
        ColourCharts c = empty();
        int[] none = {32, 127, 0, -1, 255, 256 + 'd', 65536 + 'd', -65536 + 'd', Integer.MIN_VALUE, Integer.MAX_VALUE};
        for (int sign : none) {
            check.noArgument("unit " + sign, () -> c.unit(sign));
        }
        check.due("signs", c.count(5), 0);
    }

    private static void signsCounted(Check check) {
        ColourCharts c = empty();
        for (int i = 1; i <= 20; i++) {
            check.due("unit", c.unit('a'), i);
            check.due("signs", c.count(5), i);
        }
    }

    private static void signsInOrder(Check check) {
        check.due("rule of d<1", Scenes.rule(empty(), "d<1"), 0);
        check.due("rule of 1<d", Scenes.rule(empty(), "1<d"), NONE);
    }

    private static void fullText(Check check) {
        ColourCharts c = empty();
        Scenes.text(c, "12345678901234567890");
        check.noState("unit", () -> c.unit('a'));
        check.noState("unit again", () -> c.unit(126));
        check.due("signs", c.count(5), 20);
    }

    private static void roomAgain(Check check) {
        ColourCharts c = empty();
        Scenes.text(c, "12345678901234567890");
        check.due("rule", c.rule(), NONE);
        check.due("unit", c.unit('d'), 1);
        check.due("its rest", Scenes.rule(c, "<1"), 0);
    }

    private static void eightNumbers(Check check) {
        ColourCharts c = empty();
        for (int i = 0; i < 8; i++) {
            Scenes.text(c, "m>9");
            check.due("rule", c.rule(), i);
            check.due("signs", c.count(5), 0);
            check.due("rules", c.count(3), i + 1);
        }
    }

    private static void noRule(Check check, String text) {
        ColourCharts c = empty();
        check.due("rule of " + text, Scenes.rule(c, text), NONE);
        check.due("rules after " + text, c.count(3), 0);
        check.due("signs after " + text, c.count(5), 0);
    }

    private static void isRule(Check check, String text) {
        ColourCharts c = empty();
        check.due("rule of " + text, Scenes.rule(c, text), 0);
        check.due("rules after " + text, c.count(3), 1);
        check.due("signs after " + text, c.count(5), 0);
    }

    private static void emptyText(Check check) {
        noRule(check, "");
        ColourCharts c = empty();
        Scenes.rule(c, "d<5");
        check.due("the former text is no rule again", c.rule(), NONE);
        check.due("rules", c.count(3), 1);
    }

    private static void longText(Check check) {
        noRule(check, "d<123456789012345678");
        noRule(check, "d<5                 ".replace(' ', '!'));
        noRule(check, "dddddddddddddddddddd");
    }

    private static void noNumberLost(Check check) {
        ColourCharts c = empty();
        check.due("no rule", Scenes.rule(c, "x"), NONE);
        check.due("the first", Scenes.rule(c, "d<5"), 0);
        check.due("no rule", Scenes.rule(c, "d<"), NONE);
        check.due("the second", Scenes.rule(c, "d<5"), 1);
    }

    private static void wrongKinds(Check check) {
        for (char sign = 33; sign <= 126; sign++) {
            if (sign == 'd' || sign == 'n' || sign == 'm') {
                isRule(check, sign + "<5");
            } else {
                noRule(check, sign + "<5");
            }
        }
        noRule(check, "<5");
        noRule(check, "dd<5");
    }

    private static void wrongComparisons(Check check) {
        for (char sign = 33; sign <= 126; sign++) {
            if (sign == '<' || sign == '>') {
                isRule(check, "n" + sign + "5");
            } else {
                noRule(check, "n" + sign + "5");
            }
        }
        noRule(check, "n5");
        noRule(check, "n<>5");
        noRule(check, "n<<5");
    }

    private static void noDigit(Check check) {
        noRule(check, "d");
        noRule(check, "d<");
        noRule(check, "n>");
        noRule(check, "m>");
    }

    private static void oneDigit(Check check) {
        for (int digit = 0; digit <= 9; digit++) {
            isRule(check, "d<" + digit);
        }
    }

    private static void sixDigits(Check check) {
        isRule(check, "d<123456");
        isRule(check, "n>999999");
        isRule(check, "m<000000");
    }

    private static void sevenDigits(Check check) {
        noRule(check, "d<1234567");
        noRule(check, "n>0000001");
        noRule(check, "m<0000000");
    }

    private static void wrongDigits(Check check) {
        for (char sign = 33; sign <= 126; sign++) {
            if (sign < '0' || sign > '9') {
                noRule(check, "m>" + sign);
                noRule(check, "m>" + sign + "5");
                noRule(check, "m>5" + sign);
                noRule(check, "m>12345" + sign);
            }
        }
    }

    private static ColourCharts eightRules() {
        ColourCharts c = empty();
        for (int i = 0; i < 8; i++) {
            Scenes.rule(c, "m>9");
        }
        return c;
    }

    private static void ninthRule(Check check) {
        ColourCharts c = eightRules();
        Scenes.text(c, "d<5");
        check.noState("rule", c::rule);
        check.noState("rule again", c::rule);
        check.due("rules", c.count(3), 8);
        check.due("signs", c.count(5), 3);
    }

    private static void ninthOfNone(Check check) {
        ColourCharts c = eightRules();
        check.noState("rule of an empty text", c::rule);
        Scenes.text(c, "xyz");
        check.noState("rule of xyz", c::rule);
        check.due("rules", c.count(3), 8);
        check.due("signs", c.count(5), 3);
    }

    /** Patches 0 and 1 lie on y = x; the 16 patches are one cell each, so there is no noise; 14 have no target. */
    private static ColourCharts fitted() {
        ColourCharts c = Scenes.sixteenCells();
        Scenes.patch(c, 0, 50, 50, 50);
        Scenes.patch(c, 1, 90, 90, 90);
        c.target(0, 50, 50, 50);
        c.target(1, 90, 90, 90);
        c.fit();
        return c;
    }

    /** What is measured is this number: rules at it do not reject, and those next to it do. */
    private static void measured(Check check, ColourCharts c, char kind, int number) {
        Scenes.rule(c, kind + "<" + number);
        Scenes.rule(c, kind + ">" + number);
        check.due(kind + " is not below and not above " + number, c.reject(), NONE);
        Scenes.rule(c, kind + "<" + (number + 1));
        check.due(kind + " is below " + (number + 1), c.reject(), 2);
    }

    private static void above(Check check, ColourCharts c, char kind, int number) {
        Scenes.rule(c, kind + ">" + number);
        check.due(kind + " is above " + number, c.reject(), 0);
    }

    private static void noRules(Check check) {
        check.due("reject", fitted().reject(), NONE);
    }

    private static void noneRejects(Check check) {
        ColourCharts c = fitted();
        String[] rules = {"d>0", "n>0", "m>14", "d<0", "n<0", "m<14", "d>999999", "m<0"};
        for (String rule : rules) {
            Scenes.rule(c, rule);
        }
        check.due("rules", c.count(3), 8);
        check.due("reject", c.reject(), NONE);
    }

    private static void allReject(Check check) {
        ColourCharts c = fitted();
        for (int i = 0; i < 8; i++) {
            Scenes.rule(c, "m>0");
            check.due("reject", c.reject(), 0);
        }
    }

    private static void lastRejects(Check check) {
        ColourCharts c = fitted();
        for (int i = 0; i < 7; i++) {
            Scenes.rule(c, "m>14");
        }
        check.due("reject by seven", c.reject(), NONE);
        Scenes.rule(c, "m>13");
        check.due("reject by the eighth", c.reject(), 7);
    }

    private static ColourCharts withDifferences() {
        ColourCharts c = fitted();
        c.target(0, 50, 53, 50);
        c.target(1, 90, 90, 91);
        return c;
    }

    private static void differenceAtLimit(Check check) {
        measured(check, withDifferences(), 'd', 36);
        above(check, withDifferences(), 'd', 35);
    }

    private static void noDifference(Check check) {
        measured(check, fitted(), 'd', 0);
    }

    private static void outerDifferences(Check check) {
        ColourCharts first = fitted();
        first.target(15, 255, 255, 254);
        first.target(0, 50, 50, 52);
        measured(check, first, 'd', 12);
        ColourCharts last = fitted();
        last.target(0, 50, 50, 51);
        last.target(15, 255, 255, 253);
        measured(check, last, 'd', 12);
    }

    private static ColourCharts withUtmostDifference() {
        ColourCharts c = fitted();
        c.target(15, 0, 0, 0);
        return c;
    }

    private static void utmostDifference(Check check) {
        measured(check, withUtmostDifference(), 'd', 585225);
        above(check, withUtmostDifference(), 'd', 585224);
    }

    /** The grid of one row has patches 0 to 3 alone: a target of patch 4 differs by much, but not here. */
    private static void differenceBeyond(Check check) {
        ColourCharts c = fitted();
        for (int row = 1; row < 4; row++) {
            Scenes.patch(c, 4 * row, 50, 50, 50);
            Scenes.patch(c, 4 * row + 1, 90, 90, 90);
        }
        c.target(4, 255, 255, 255);
        c.target(15, 0, 0, 0);
        c.grid(4, 1);
        measured(check, c, 'd', 0);
    }

    /** Patches of two cells, one above the other; the last of them, without a target, of 255 and this green. */
    private static ColourCharts noisy(int green) {
        ColourCharts c = fitted();
        c.grid(4, 2);
        Scenes.patch(c, 4, 50, 50, 50);
        Scenes.patch(c, 5, 90, 90, 90);
        c.pixel(4, 4, 1, green);
        return c;
    }

    private static void noiseAtLimit(Check check) {
        measured(check, noisy(255), 'n', 0);
        measured(check, noisy(251), 'n', 4);
        above(check, noisy(251), 'n', 3);
    }

    private static void noiseRoundedDown(Check check) {
        measured(check, noisy(250), 'n', 6);
        measured(check, noisy(248), 'n', 12);
        measured(check, noisy(254), 'n', 0);
        above(check, noisy(250), 'n', 5);
        measured(check, noisyQuarter(253), 'n', 0);
        measured(check, noisyQuarter(252), 'n', 1);
        measured(check, noisyQuarter(251), 'n', 3);
        measured(check, noisyQuarter(249), 'n', 6);
    }

    /** One patch of four cells, three greens of 255 and this one; the others are without noise. */
    private static ColourCharts noisyQuarter(int green) {
        ColourCharts c = fitted();
        Scenes.patch(c, 0, 255, 255, 255);
        Scenes.patch(c, 1, 255, 255, 255);
        c.grid(2, 2);
        c.pixel(4, 4, 1, green);
        return c;
    }

    private static void outerNoise(Check check) {
        ColourCharts first = noisy(251);
        first.pixel(1, 2, 1, 60);
        measured(check, first, 'n', 25);
        ColourCharts last = noisy(245);
        last.pixel(1, 2, 1, 52);
        measured(check, last, 'n', 25);
    }

    private static void utmostNoise(Check check) {
        measured(check, noisy(0), 'n', 16256);
    }

    private static void missingExtremes(Check check) {
        ColourCharts all = fitted();
        all.target(0, -1, 0, 0);
        all.target(1, -1, 0, 0);
        measured(check, all, 'm', 16);
        ColourCharts none = fitted();
        none.grid(2, 1);
        measured(check, none, 'm', 0);
        ColourCharts one = fitted();
        one.target(0, -1, 0, 0);
        one.grid(1, 1);
        one.target(15, 1, 1, 1);
        measured(check, one, 'm', 1);
    }

    private static void missingAtLimit(Check check) {
        measured(check, fitted(), 'm', 14);
        above(check, fitted(), 'm', 13);
    }

    private static void leadingZeros(Check check) {
        ColourCharts c = fitted();
        Scenes.rule(c, "m<000014");
        Scenes.rule(c, "m>000014");
        check.due("reject", c.reject(), NONE);
        Scenes.rule(c, "m<000015");
        check.due("reject", c.reject(), 2);
        ColourCharts other = fitted();
        Scenes.rule(other, "m<100000");
        check.due("zeros behind it count", other.reject(), 0);
    }

    private static void rejectNotFound(Check check) {
        ColourCharts c = fitted();
        Scenes.rule(c, "m>0");
        check.due("reject", c.reject(), 0);
        c.pixel(0, 0, 0, 41);
        check.due("find", c.find(), false);
        check.noState("reject of none", c::reject);
    }

    private static void rejectNotFitted(Check check) {
        ColourCharts c = Scenes.sixteenCells();
        check.noState("reject without rules", c::reject);
        Scenes.rule(c, "m>0");
        check.noState("reject", c::reject);
        c.target(0, 1, 1, 1);
        check.due("fit of one", c.fit(), 1);
        check.noState("reject after it", c::reject);
    }
}
