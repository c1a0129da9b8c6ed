import java.util.ArrayList;
import java.util.List;

/**
 * Two objects made by the same calls. A refused call on one of them must not let them be told apart afterwards, by
 * whatever can be asked. Each object gets less than 512 calls.
 */
final class Twins {
    interface Making {
        ColourCharts make();
    }

    interface Use {
        long call(ColourCharts c);
    }

    private static final String INDEX = "throws.IndexOutOfBoundsException";
    private static final String ARGUMENT = "throws.IllegalArgumentException";
    private static final String STATE = "throws.IllegalStateException";

    private final Check check;
    private final Making making;

    Twins(Check check, Making making) {
        this.check = check;
        this.making = making;
    }

    void noCell(String name, Use refused) {
        unchanged(name, INDEX, refused);
    }

    void noArgument(String name, Use refused) {
        unchanged(name, ARGUMENT, refused);
    }

    void noState(String name, Use refused) {
        unchanged(name, STATE, refused);
    }

    private void unchanged(String name, String due, Use refused) {
        ColourCharts called = making.make();
        check.dueText(name, Check.told(() -> refused.call(called)), due);
        List<String> got = allAnswers(called);
        List<String> want = allAnswers(making.make());
        for (int i = 0; i < want.size(); i++) {
            check.dueText("after " + name + ", answer " + i, got.get(i), want.get(i));
        }
    }

    private static void ask(List<String> answers, String name, Check.Call call) {
        answers.add(name + " " + Check.told(call));
    }

    /** First what can be asked without a change, then what only changes bring to light. */
    private static List<String> allAnswers(ColourCharts c) {
        List<String> answers = new ArrayList<>();
        askCountsAndFrame(answers, c);
        askPatches(answers, c, 6);
        askLines(answers, c);
        ask(answers, "the text's last digit", () -> c.unit('7'));
        ask(answers, "rule", c::rule);
        ask(answers, "reject", c::reject);
        ask(answers, "day", () -> c.day(77, 777));
        ask(answers, "drift", () -> c.drift(0));
        ask(answers, "turn", () -> c.turn(0));
        ask(answers, "find", () -> c.find() ? 1 : 0);
        c.grid(4, 4);
        ask(answers, "fit", c::fit);
        askLines(answers, c);
        ask(answers, "neutral", () -> c.neutral(ColourCharts.NONE));
        for (int patch = 0; patch < 16; patch++) {
            int which = patch;
            ask(answers, "difference " + which, () -> c.difference(which));
        }
        askCells(answers, c);
        return answers;
    }

    private static void askCountsAndFrame(List<String> answers, ColourCharts c) {
        for (int i = 0; i < 6; i++) {
            int what = i;
            ask(answers, "count " + what, () -> c.count(what));
            if (what < 4) {
                ask(answers, "box " + what, () -> c.box(what));
            }
            if (what < 2) {
                ask(answers, "drift " + what, () -> c.drift(what));
            }
        }
        ask(answers, "reject", c::reject);
    }

    private static void askPatches(List<String> answers, ColourCharts c, int patches) {
        for (int i = 0; i < patches; i++) {
            int patch = i;
            for (int j = 0; j < 3; j++) {
                int part = j;
                ask(answers, "read " + patch + ", " + part, () -> c.read(patch, part));
            }
            ask(answers, "noise " + patch, () -> c.noise(patch, 0));
            ask(answers, "difference " + patch, () -> c.difference(patch));
        }
        ask(answers, "read of one more", () -> c.read(patches, 0));
    }

    private static void askLines(List<String> answers, ColourCharts c) {
        for (int i = 0; i < 9; i++) {
            int part = i / 3;
            int what = i % 3;
            ask(answers, "line " + part + ", " + what, () -> c.line(part, what));
        }
    }

    /** Each cell is asked by giving it another value. */
    private static void askCells(List<String> answers, ColourCharts c) {
        for (int i = 0; i < 36; i++) {
            int x = i % 6;
            int y = i / 6;
            for (int j = 0; j < 3; j++) {
                int part = j;
                ask(answers, "pixel " + x + ", " + y + ", " + part, () -> c.pixel(x, y, part, 3));
            }
            ask(answers, "light " + x + ", " + y, () -> c.light(x, y, 3));
        }
    }

    /** A frame, lights, targets in and beyond a grid of six patches, a neutral one, rules, signs and days; not found. */
    static ColourCharts unfound() {
        ColourCharts c = new ColourCharts(6, 6);
        Scenes.frame(c, 0, 0, 5, 5);
        for (int cell = 0; cell < 16; cell++) {
            c.pixel(1 + cell % 4, 1 + cell / 4, cell % 3, 60 + 11 * cell);
        }
        c.light(2, 2, 150);
        c.light(4, 3, 240);
        c.grid(3, 2);
        c.turn(1);
        c.target(0, 10, 200, 30);
        c.target(3, 110, 20, 130);
        c.target(5, 210, 120, 90);
        c.target(15, 1, 2, 3);
        c.neutral(3);
        Scenes.rule(c, "d>585000");
        Scenes.rule(c, "m>3");
        Scenes.text(c, "n>");
        c.day(3, 30);
        c.day(5, 44);
        return c;
    }

    static ColourCharts unfitted() {
        ColourCharts c = unfound();
        c.find();
        return c;
    }

    static ColourCharts busy() {
        ColourCharts c = unfitted();
        c.fit();
        return c;
    }

    /** Fitted, but the frame is broken, and there is none any more. */
    static ColourCharts lost() {
        ColourCharts c = busy();
        c.pixel(0, 0, 0, 100);
        c.find();
        c.pixel(0, 0, 0, 0);
        return c;
    }

    static ColourCharts withEightRules() {
        ColourCharts c = busy();
        c.rule();
        for (int i = c.count(3); i < 8; i++) {
            Scenes.rule(c, "m<1");
        }
        Scenes.text(c, "d<");
        return c;
    }

    static ColourCharts withTwentySigns() {
        ColourCharts c = busy();
        while (c.count(5) < 20) {
            c.unit('5');
        }
        return c;
    }

    static ColourCharts withFortyDays() {
        ColourCharts c = busy();
        while (c.count(4) < 40) {
            c.day(c.count(4), 9 * c.count(4) % 100);
        }
        return c;
    }
}
