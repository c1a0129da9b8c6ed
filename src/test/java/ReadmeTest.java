import java.io.IOException;
import java.nio.file.Files;
import java.nio.file.Path;

/** The example in README.md is the one in this file, line by line, and answers what its comments say. */
public final class ReadmeTest {
    private static final Check CHECK = new Check();

    public static void main(String[] args) throws IOException {
        String readme = Files.readString(Path.of("README.md"));
        String source = Files.readString(Path.of("src/test/java/ReadmeTest.java"));
        String inHere = between(source, "{\n    // The example of README.md:\n", "    // The example ends.\n");
        CHECK.dueText("README.md's example", between(readme, "```java\n", "```"), inHere.replaceAll("(?m)^        ", ""));
        example();
        CHECK.end("ReadmeTest");
    }

    private static String between(String text, String before, String after) {
        int start = text.indexOf(before) + before.length();
        return text.substring(start, text.indexOf(after, start));
    }

    private static void example() {
    // The example of README.md:
        ColourCharts c = new ColourCharts(12, 10);     // a white picture; its sides are held within 6 .. 30
        c.light(3, 3, 100);                            // half the light in this cell
        for (int part = 0; part < 3; part++) {         // 0 red, 1 green, 2 blue
            for (int x = 1; x <= 10; x++) {
                for (int y = 1; y <= 8; y++) {         // a dark frame about a left patch of 60, a right one of 180
                    boolean frame = x == 1 || x == 10 || y == 1 || y == 8;
                    c.pixel(x, y, part, frame ? 20 : x < 6 ? 60 : 180);
                }
            }
            c.pixel(3, 3, part, 30);                   // less light, less of each part
        }
        int even = c.lit(3, 3, 0);                     // 60: as if the light were even

        boolean found = c.find();                      // true: the dark frame
        int right = c.box(2);                          // 10: its right side
        c.grid(2, 1);                                  // two columns and one row of patches within it ..
        c.turn(0);                                     // .. numbered row by row, from the upper left one on
        int read = c.read(1, 0);                       // 180: the mean red of the right patch
        long uneven = c.noise(1, 0);                   // 0: its greens are all alike (0 / 1)

        c.target(0, 50, 60, 70);                       // what the patches should be: red, green, blue
        c.target(1, 200, 200, 200);
        c.neutral(ColourCharts.NONE);                  // lines are free; neutral(1) would hold them to patch 1
        int fitted = c.fit();                          // 2 patches; for each part a line y = (a x + b) / d
        long a = c.line(0, 0);                         // 5: a red y is (5 x - 100) / 4
        long b = c.line(0, 1);                         // -100
        long d = c.line(0, 2);                         // 4
        int red = c.colour(0, 140);                    // 150: what a red of 140 in the scan should be
        int off = c.difference(1);                     // 0: patch 1 comes to its target

        for (char sign : "d>500".toCharArray()) {      // a rule: a difference above 500 rejects the chart
            c.unit(sign);
        }
        int rule = c.rule();                           // 0: the rule's number
        int by = c.reject();                           // NONE: no rule rejects

        c.day(14, 480);                                // what was read on day 14
        c.day(20, 489);
        long above = c.drift(0);                       // 3: it drifts by 3 / 2 a day
        long below = c.drift(1);                       // 2
        int days = c.count(4);                         // 2
    // The example ends.
        CHECK.due("even", even, 60);
        CHECK.due("found", found, true);
        CHECK.due("right", right, 10);
        CHECK.due("read", read, 180);
        CHECK.due("uneven", uneven, 0);
        CHECK.due("fitted", fitted, 2);
        CHECK.due("a", a, 5);
        CHECK.due("b", b, -100);
        CHECK.due("d", d, 4);
        CHECK.due("red", red, 150);
        CHECK.due("off", off, 0);
        CHECK.due("rule", rule, 0);
        CHECK.due("by", by, ColourCharts.NONE);
        CHECK.due("above", above, 3);
        CHECK.due("below", below, 2);
        CHECK.due("days", days, 2);
    }
}
